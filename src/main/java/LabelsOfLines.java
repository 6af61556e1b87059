/** Labels of lines with like sums or with all sums unlike, as ../shared/DOC.md promises. */
public final class LabelsOfLines {
    private static final int MOST_POINTS = 7;
    private static final int MOST_LINES = 8;
    private static final int MOST_LABEL = 99;
    private static final int MOST_FIGURE = 9;
    private static final int MOST_R = 6;
    private static final int MOST_K = 3;
    private static final int MOST_LETTERS = 72;
    private static final int MOST_LOTS = 50;
    private static final int MOST_PLACES = 40;
    private static final int MOST_UNDONE = 8;
    private static final int KINDS = 6;
    private static final int RULES = 6;
    private static final int LISTS = 3;

    private static final int PLAIN = 0;
    private static final int ARROW = 1;
    private static final int DOUBLE = 2;
    private static final int TURNED = 3;
    private static final int HEAVY = 4;
    private static final int LIGHT = 5;

    private static final int LIKE = 0;
    private static final int UNLIKE = 1;
    private static final int RISING = 2;
    private static final int EVEN = 3;
    private static final int FEW = 4;

    private static final int NOBODY = -1;
    private static final int OTHER = -2;
    private static final int STATE = -3;
    private static final int BELOW = -4;
    private static final int ROOM = -6;
    private static final int NONE = -9;
    private static final int MISSING = -11;
    private static final int NO_PLACE = -13;
    private static final int NO_SIZE = -14;
    private static final int OTHER_KIND = -16;
    private static final int ALL = -1;
    private static final long REFUSED_LONG = 4000000000000000000L;
    private static final int REFUSED_DIFFERENCE = 1000000000;

    private final Net net = new Net();
    private final Net image = new Net();
    private boolean imageTaken = false;
    private final Past past = new Past();
    private final Thought thought = new Thought(net);
    private final Shape shape = new Shape(net);
    private final Letters letters = new Letters();
    private final Writing writing = new Writing();
    private final Lists lists = new Lists();
    private final int[] refusals = new int[7];
    private final int[] sums = new int[MOST_POINTS];
    private final int[] magicRow = new int[MOST_R + 1];

    public LabelsOfLines() {
    }

    // ---- points, lines

    public int letter(int c) {
        if (c < 0) {
            return refused(BELOW);
        }
        if (c > 255 || letters.count >= MOST_LETTERS) {
            return refused(ROOM);
        }
        letters.add(c);
        return letters.count;
    }

    public int text() {
        int told = letters.tell(net);
        letters.count = 0;
        if (told >= 0) {
            past.forget();
        }
        return told;
    }

    public int points(int n) {
        if (n < 1) {
            return refused(BELOW);
        }
        if (n > MOST_POINTS) {
            return refused(ROOM);
        }
        int were = net.pointCount;
        net.restart(n);
        past.forget();
        return were;
    }

    public int line(int kind, int one, int other) {
        if (!isKind(kind)) {
            return refused(OTHER);
        }
        if (!net.hasPoint(one) || !net.hasPoint(other)) {
            return refused(NOBODY);
        }
        if (net.lineCount >= MOST_LINES) {
            return refused(ROOM);
        }
        net.add(kind, one, other);
        past.forget();
        return net.lineCount - 1;
    }

    public int drop() {
        if (net.lineCount < 1) {
            return refused(STATE);
        }
        net.lineCount--;
        past.forget();
        return net.lineCount;
    }

    public int label(int line, int v) {
        if (!net.hasLine(line)) {
            return refused(NOBODY);
        }
        if (v < 0) {
            return refused(BELOW);
        }
        if (v > MOST_LABEL) {
            return refused(ROOM);
        }
        past.keep(net);
        int was = net.labels[line];
        net.labels[line] = v;
        return was;
    }

    public int turn(int line, int kind, int figure) {
        if (!net.hasLine(line)) {
            return refused(NOBODY);
        }
        if (!isKind(kind)) {
            return refused(OTHER);
        }
        if (figure < 0) {
            return refused(BELOW);
        }
        if (figure > MOST_FIGURE) {
            return refused(ROOM);
        }
        past.keep(net);
        int were = 10 * net.kinds[line] + net.figures[line];
        net.kinds[line] = kind;
        net.figures[line] = figure;
        return were;
    }

    public int of(int line, int what) {
        if (!net.hasLine(line)) {
            return refused(NOBODY);
        }
        switch (what) {
            case 0:
                return net.kinds[line];
            case 1:
                return net.figures[line];
            case 2:
                return net.firsts[line];
            case 3:
                return net.seconds[line];
            case 4:
                return net.labels[line];
            case 5:
                return net.forth(line);
            case 6:
                return net.back(line);
            default:
                return refused(OTHER);
        }
    }

    public int taken(int line, int kind) {
        if (!net.hasLine(line)) {
            return refused(NOBODY);
        }
        if (!isKind(kind)) {
            return refused(OTHER);
        }
        int own = net.kinds[line];
        return Kinds.isUnder(own, kind) ? own : OTHER_KIND;
    }

    public int table(int point, int line) {
        if (!net.hasPoint(point) || !net.hasLine(line)) {
            return refused(NOBODY);
        }
        return net.weight(point, line);
    }

    // ---- sums, rules

    public int sum(int point) {
        if (!net.hasPoint(point)) {
            return refused(NOBODY);
        }
        return net.sumAt(point);
    }

    public int total() {
        net.fillSums(sums);
        return Rules.together(sums, net.pointCount);
    }

    public int rule(int rule) {
        if (!isRule(rule)) {
            return refused(OTHER);
        }
        net.fillSums(sums);
        return Rules.holds(rule, sums, net.pointCount) ? 1 : 0;
    }

    public int ranked(int k) {
        if (k < 0) {
            return refused(BELOW);
        }
        net.fillSums(sums);
        for (int point = 0; point < net.pointCount; point++) {
            if (Rules.aheadOf(point, sums, net.pointCount) == k) {
                return point;
            }
        }
        return NONE;
    }

    public int ways(int rule, int k, int i, int line) {
        if (!isRule(rule)) {
            return refused(OTHER);
        }
        if (k < 0 || i < ALL) {
            return refused(BELOW);
        }
        if (k > MOST_K) {
            return refused(ROOM);
        }
        if (i != ALL && !net.hasLine(line)) {
            return refused(NOBODY);
        }
        return found(thought.findWays(rule, k, i), i, line);
    }

    public int magic(int r, int i, int line) {
        if (r < 0 || i < ALL) {
            return refused(BELOW);
        }
        if (r > MOST_R) {
            return refused(ROOM);
        }
        if (i != ALL && !net.hasLine(line)) {
            return refused(NOBODY);
        }
        return found(thought.findMagic(r, i), i, line);
    }

    public int difference(int j, int r) {
        if (j < 0 || r < 0) {
            return REFUSED_DIFFERENCE - refused(BELOW);
        }
        if (j > MOST_R || r > MOST_R - j) {
            return REFUSED_DIFFERENCE - refused(ROOM);
        }
        fillMagicRow(r, r + j);
        for (int done = 0; done < j; done++) {
            becomeDifferences(r, r + j - done);
        }
        return magicRow[r];
    }

    public int settled() {
        fillMagicRow(0, MOST_R);
        for (int j = 0; j < MOST_R; j++) {
            if (Rules.holds(LIKE, magicRow, MOST_R + 1 - j)) {
                return j;
            }
            becomeDifferences(0, MOST_R - j);
        }
        return MOST_R;
    }

    public int orders(int i, int line) {
        if (i < ALL) {
            return refused(BELOW);
        }
        if (i != ALL && !net.hasLine(line)) {
            return refused(NOBODY);
        }
        return found(thought.findOrders(i), i, line);
    }

    public int spread() {
        return thought.leastSpread();
    }

    public long odds(int rule, int k, int part) {
        if (!isRule(rule)) {
            return REFUSED_LONG - refused(OTHER);
        }
        if (k < 0) {
            return REFUSED_LONG - refused(BELOW);
        }
        if (k > MOST_K) {
            return REFUSED_LONG - refused(ROOM);
        }
        if (part != 0 && part != 1) {
            return REFUSED_LONG - refused(OTHER);
        }
        int above = thought.findWays(rule, k, ALL);
        int below = Thought.power(k + 1, net.lineCount);
        return (part == 0 ? above : below) / commonDivisor(above, below);
    }

    public int lots(int rule, int n, int z, int what) {
        if (!isRule(rule)) {
            return refused(OTHER);
        }
        if (n < 1) {
            return refused(BELOW);
        }
        if (n > MOST_LOTS) {
            return refused(ROOM);
        }
        if (what != 0 && what != 1) {
            return refused(OTHER);
        }
        return what == 0 ? thought.lotsThatKeep(rule, n, z) : thought.lotsTogether(n, z);
    }

    // ---- the table, what hangs together

    public int rank(int what) {
        if (what != 0 && what != 1) {
            return refused(OTHER);
        }
        int rank = shape.rankOfTable();
        return what == 0 ? rank : net.lineCount - rank;
    }

    public int parts(int point) {
        if (point == ALL) {
            return shape.partCount();
        }
        if (!net.hasPoint(point)) {
            return refused(NOBODY);
        }
        return shape.partOf(point);
    }

    public int sides(int point) {
        if (point == ALL) {
            return shape.hasSides() ? 1 : 0;
        }
        if (!net.hasPoint(point)) {
            return refused(NOBODY);
        }
        return shape.hasSides() ? shape.sideOf(point) : NONE;
    }

    public int written(int i) {
        if (i < ALL) {
            return refused(BELOW);
        }
        writing.write(net);
        if (i == ALL) {
            return writing.count;
        }
        return i < writing.count ? writing.signs[i] : NONE;
    }

    // ---- lists of numbers

    public int list(int list, int n) {
        if (!isList(list)) {
            return refused(NOBODY);
        }
        if (n > MOST_PLACES) {
            return refused(ROOM);
        }
        if (n < 0) {
            return NO_SIZE;
        }
        lists.renew(list, n);
        return 1;
    }

    public int put(int list, int i, int v) {
        int refusal = refusalOfPlace(list, i);
        if (refusal != 0) {
            return refusal;
        }
        lists.rows[list][i] = v;
        return 1;
    }

    public long look(int list, int i) {
        int refusal = refusalOfPlace(list, i);
        if (refusal != 0) {
            return REFUSED_LONG - refusal;
        }
        return lists.rows[list][i];
    }

    public int lays(int list, int i) {
        int refusal = refusalOfList(list);
        if (refusal != 0) {
            return refusal;
        }
        if (i < 0 || i > lists.sizes[list] - net.pointCount) {
            return NO_PLACE;
        }
        net.fillSums(sums);
        System.arraycopy(sums, 0, lists.rows[list], i, net.pointCount);
        return net.pointCount;
    }

    public int judge(int list) {
        int refusal = refusalOfList(list);
        if (refusal != 0) {
            return refusal;
        }
        net.fillSums(sums);
        for (int i = 0; i < lists.sizes[list]; i++) {
            if (i >= net.pointCount || lists.rows[list][i] != sums[i]) {
                return i;
            }
        }
        return NONE;
    }

    public int gives(int list) {
        int refusal = refusalOfList(list);
        if (refusal != 0) {
            return refusal;
        }
        if (lists.sizes[list] != net.lineCount || !lists.allWithin(list, 0, MOST_LABEL)) {
            return refused(STATE);
        }
        past.keep(net);
        System.arraycopy(lists.rows[list], 0, net.labels, 0, net.lineCount);
        return net.lineCount;
    }

    public int rules(int list) {
        int refusal = refusalOfList(list);
        if (refusal != 0) {
            return refusal;
        }
        int size = lists.sizes[list];
        if (size < 1 || size > MOST_POINTS) {
            return refused(STATE);
        }
        int bits = 0;
        for (int rule = 0; rule < RULES; rule++) {
            if (Rules.holds(rule, lists.rows[list], size)) {
                bits |= 1 << rule;
            }
        }
        return bits;
    }

    // ---- the image

    public int undo() {
        if (past.count < 1) {
            return refused(STATE);
        }
        past.restore(net);
        return past.count;
    }

    public int image() {
        image.copyFrom(net);
        imageTaken = true;
        return image.lineCount;
    }

    public int on() {
        if (!imageTaken) {
            return refused(STATE);
        }
        net.copyFrom(image);
        past.forget();
        return net.lineCount;
    }

    public int count(int what) {
        switch (what) {
            case 0:
                return net.pointCount;
            case 1:
                return net.lineCount;
            case 2:
                return letters.count;
            case 3:
                return past.count;
            case 4:
                return Rules.together(net.labels, net.lineCount);
            default:
                return what >= 11 && what <= 16 ? refusals[what - 10] : NONE;
        }
    }

    // ---- what the calls share

    private int refused(int number) {
        if (number < 0 && number > -refusals.length) {
            refusals[-number]++;
        }
        return number;
    }

    private int refusalOfList(int list) {
        if (!isList(list)) {
            return refused(NOBODY);
        }
        return lists.isMissing(list) ? MISSING : 0;
    }

    private int refusalOfPlace(int list, int i) {
        int refusal = refusalOfList(list);
        if (refusal != 0) {
            return refusal;
        }
        return i < 0 || i >= lists.sizes[list] ? NO_PLACE : 0;
    }

    /** What a call with an i answers, when a search has stopped behind the i-th or at its end. */
    private int found(int howMany, int i, int line) {
        if (i == ALL) {
            return howMany;
        }
        return howMany > i ? thought.labels[line] : NONE;
    }

    private void fillMagicRow(int from, int upTo) {
        for (int r = from; r <= upTo; r++) {
            magicRow[r] = thought.findMagic(r, ALL);
        }
    }

    private void becomeDifferences(int from, int upTo) {
        for (int r = from; r < upTo; r++) {
            magicRow[r] = magicRow[r + 1] - magicRow[r];
        }
    }

    private static boolean isKind(int kind) {
        return kind >= 0 && kind < KINDS;
    }

    private static boolean isRule(int rule) {
        return rule >= 0 && rule < RULES;
    }

    private static boolean isList(int list) {
        return list >= 0 && list < LISTS;
    }

    private static int commonDivisor(int a, int b) {
        int greater = b;
        int lesser = a;
        // Each two rounds halve the lesser at least, so 64 are enough for ints.
        for (int round = 0; round < 64 && lesser != 0; round++) {
            int rest = greater % lesser;
            greater = lesser;
            lesser = rest;
        }
        return Math.max(1, greater);
    }

    /** What the kinds of lines are. */
    private static final class Kinds {
        private static final int[] ABOVE = {-1, PLAIN, PLAIN, ARROW, DOUBLE, PLAIN};

        static boolean isUnder(int kind, int upper) {
            int at = kind;
            for (int level = 0; level < KINDS && isKind(at); level++) {
                if (at == upper) {
                    return true;
                }
                at = ABOVE[at];
            }
            return false;
        }

        static int forth(int kind, int figure) {
            switch (kind) {
                case DOUBLE:
                    return 2;
                case TURNED:
                    return 0;
                case HEAVY:
                    return 2 + figure;
                default:
                    return 1;
            }
        }

        static int back(int kind, int figure) {
            switch (kind) {
                case ARROW:
                    return 0;
                case DOUBLE:
                case HEAVY:
                    return 2;
                case LIGHT:
                    return figure % 2 == 0 ? 1 : 0;
                default:
                    return 1;
            }
        }
    }

    /** What the rules say of sums, and what else is read from them. */
    private static final class Rules {
        static boolean holds(int rule, int[] sums, int n) {
            switch (rule) {
                case LIKE:
                    return allLike(sums, n);
                case UNLIKE:
                    return allUnlike(sums, n);
                case RISING:
                    return allRising(sums, n);
                case EVEN:
                    return allEven(sums, n);
                case FEW:
                    return noneAbove(2 * n, sums, n);
                default:
                    return !allLike(sums, n) && !allUnlike(sums, n);
            }
        }

        private static boolean allLike(int[] sums, int n) {
            for (int i = 1; i < n; i++) {
                if (sums[i] != sums[0]) {
                    return false;
                }
            }
            return true;
        }

        private static boolean allUnlike(int[] sums, int n) {
            for (int i = 1; i < n; i++) {
                int sum = sums[i];
                for (int j = 0; j < i; j++) {
                    if (sums[j] == sum) {
                        return false;
                    }
                }
            }
            return true;
        }

        private static boolean allRising(int[] sums, int n) {
            for (int i = 1; i < n; i++) {
                if (sums[i] <= sums[i - 1]) {
                    return false;
                }
            }
            return true;
        }

        private static boolean allEven(int[] sums, int n) {
            for (int i = 0; i < n; i++) {
                if ((sums[i] & 1) != 0) {
                    return false;
                }
            }
            return true;
        }

        private static boolean noneAbove(int most, int[] sums, int n) {
            for (int i = 0; i < n; i++) {
                if (sums[i] > most) {
                    return false;
                }
            }
            return true;
        }

        static int together(int[] numbers, int n) {
            int all = 0;
            for (int i = 0; i < n; i++) {
                all += numbers[i];
            }
            return all;
        }

        /** How many of n come ahead of one, when the greatest sum comes first. */
        static int aheadOf(int one, int[] sums, int n) {
            int ahead = 0;
            for (int i = 0; i < n; i++) {
                if (sums[i] > sums[one] || sums[i] == sums[one] && i < one) {
                    ahead++;
                }
            }
            return ahead;
        }

        static int spreadOf(int[] sums, int n) {
            int least = sums[0];
            int greatest = sums[0];
            for (int i = 1; i < n; i++) {
                least = Math.min(least, sums[i]);
                greatest = Math.max(greatest, sums[i]);
            }
            return greatest - least;
        }
    }

    /** Points, and lines with all that is theirs. */
    private static final class Net {
        int pointCount = 4;
        int lineCount = 0;
        final int[] kinds = new int[MOST_LINES];
        final int[] figures = new int[MOST_LINES];
        final int[] firsts = new int[MOST_LINES];
        final int[] seconds = new int[MOST_LINES];
        final int[] labels = new int[MOST_LINES];

        boolean hasPoint(int point) {
            return point >= 0 && point < pointCount;
        }

        boolean hasLine(int line) {
            return line >= 0 && line < lineCount;
        }

        void restart(int n) {
            pointCount = n;
            lineCount = 0;
        }

        /** Brings a line; the caller has seen that there is room, and such points. */
        void add(int kind, int one, int other) {
            kinds[lineCount] = kind;
            figures[lineCount] = 0;
            firsts[lineCount] = one;
            seconds[lineCount] = other;
            labels[lineCount] = 0;
            lineCount++;
        }

        void copyFrom(Net from) {
            pointCount = from.pointCount;
            lineCount = from.lineCount;
            System.arraycopy(from.kinds, 0, kinds, 0, MOST_LINES);
            System.arraycopy(from.figures, 0, figures, 0, MOST_LINES);
            System.arraycopy(from.firsts, 0, firsts, 0, MOST_LINES);
            System.arraycopy(from.seconds, 0, seconds, 0, MOST_LINES);
            System.arraycopy(from.labels, 0, labels, 0, MOST_LINES);
        }

        int forth(int line) {
            return Kinds.forth(kinds[line], figures[line]);
        }

        int back(int line) {
            return Kinds.back(kinds[line], figures[line]);
        }

        int weight(int point, int line) {
            int atFirst = firsts[line] == point ? forth(line) : 0;
            int atSecond = seconds[line] == point ? back(line) : 0;
            return atFirst + atSecond;
        }

        int sumAt(int point) {
            int all = 0;
            for (int line = 0; line < lineCount; line++) {
                all += weight(point, line) * labels[line];
            }
            return all;
        }

        void fillSums(int[] sums) {
            for (int point = 0; point < pointCount; point++) {
                sums[point] = sumAt(point);
            }
        }
    }

    /** What the latest changes of kinds, figures and labels found, for undoing them. */
    private static final class Past {
        private final int[][] kinds = new int[MOST_UNDONE][MOST_LINES];
        private final int[][] figures = new int[MOST_UNDONE][MOST_LINES];
        private final int[][] labels = new int[MOST_UNDONE][MOST_LINES];
        private int next = 0;
        int count = 0;

        /** The rows are a ring: a ninth change takes the place of the oldest. */
        void keep(Net net) {
            System.arraycopy(net.kinds, 0, kinds[next], 0, MOST_LINES);
            System.arraycopy(net.figures, 0, figures[next], 0, MOST_LINES);
            System.arraycopy(net.labels, 0, labels[next], 0, MOST_LINES);
            next = (next + 1) % MOST_UNDONE;
            count = Math.min(count + 1, MOST_UNDONE);
        }

        void restore(Net net) {
            next = (next + MOST_UNDONE - 1) % MOST_UNDONE;
            count--;
            System.arraycopy(kinds[next], 0, net.kinds, 0, MOST_LINES);
            System.arraycopy(figures[next], 0, net.figures, 0, MOST_LINES);
            System.arraycopy(labels[next], 0, net.labels, 0, MOST_LINES);
        }

        void forget() {
            count = 0;
        }
    }

    /** Labels in thought for the lines of a net, and the sums that they make. */
    private static final class Thought {
        private static final int ALL_BUT_SIGN = 0x7fffffff;

        private final Net net;
        final int[] labels = new int[MOST_LINES];
        private final int[] sums = new int[MOST_POINTS];
        // Kept for one search, since a search asks for them at each of its steps.
        private final int[] forths = new int[MOST_LINES];
        private final int[] backs = new int[MOST_LINES];
        private final int[] lastLines = new int[MOST_POINTS];
        private int found = 0;
        private int seed = 0;

        Thought(Net net) {
            this.net = net;
        }

        private void begin() {
            for (int point = 0; point < MOST_POINTS; point++) {
                sums[point] = 0;
                lastLines[point] = -1;
            }
            for (int line = 0; line < net.lineCount; line++) {
                labels[line] = 0;
                forths[line] = net.forth(line);
                backs[line] = net.back(line);
                if (forths[line] > 0) {
                    lastLines[net.firsts[line]] = line;
                }
                if (backs[line] > 0) {
                    lastLines[net.seconds[line]] = line;
                }
            }
        }

        private void relabel(int line, int v) {
            int more = v - labels[line];
            labels[line] = v;
            sums[net.firsts[line]] += more * forths[line];
            sums[net.seconds[line]] += more * backs[line];
        }

        /** How many ways there are; it stops behind the wanted one, whose labels then stand. */
        int findWays(int rule, int k, int wanted) {
            begin();
            int all = power(k + 1, net.lineCount);
            int sofar = 0;
            for (int way = 0; way < all; way++) {
                if (Rules.holds(rule, sums, net.pointCount)) {
                    sofar++;
                    if (sofar - 1 == wanted) {
                        return sofar;
                    }
                }
                nextLabels(k);
            }
            return sofar;
        }

        private void nextLabels(int k) {
            for (int line = net.lineCount - 1; line >= 0; line--) {
                if (labels[line] < k) {
                    relabel(line, labels[line] + 1);
                    return;
                }
                relabel(line, 0);
            }
        }

        /** As findWays, of labels by which all sums are r. */
        int findMagic(int r, int wanted) {
            begin();
            found = 0;
            if (r == 0 || allPointsCount()) {
                seekMagic(this, 0, r, wanted);
            }
            return found;
        }

        private boolean allPointsCount() {
            for (int point = 0; point < net.pointCount; point++) {
                if (lastLines[point] < 0) {
                    return false;
                }
            }
            return true;
        }

        /** Whether the wanted one is found; else the labels from this line on are 0 again. */
        private static boolean seekMagic(Thought in, int line, int r, int wanted) {
            if (line >= in.net.lineCount) {
                in.found++;
                return in.found - 1 == wanted;
            }
            for (int v = 0; v <= r; v++) {
                in.relabel(line, v);
                if (in.isAbove(line, r)) {
                    break;
                }
                if (in.leavesNoLess(line, r) && seekMagic(in, line + 1, r, wanted)) {
                    return true;
                }
            }
            in.relabel(line, 0);
            return false;
        }

        private boolean isAbove(int line, int r) {
            return sums[net.firsts[line]] > r || sums[net.seconds[line]] > r;
        }

        /** No later line mends a sum at a point whose last line this is: it must be r now. */
        private boolean leavesNoLess(int line, int r) {
            int one = net.firsts[line];
            int other = net.seconds[line];
            return (lastLines[one] != line || sums[one] == r)
                && (lastLines[other] != line || sums[other] == r);
        }

        /** As findWays, of orders. */
        int findOrders(int wanted) {
            beginOrders();
            int all = ordersOf(net.lineCount);
            int sofar = 0;
            for (int order = 0; order < all; order++) {
                if (Rules.holds(UNLIKE, sums, net.pointCount)) {
                    sofar++;
                    if (sofar - 1 == wanted) {
                        return sofar;
                    }
                }
                nextOrder();
            }
            return sofar;
        }

        int leastSpread() {
            beginOrders();
            int all = ordersOf(net.lineCount);
            int least = NONE;
            for (int order = 0; order < all; order++) {
                if (Rules.holds(UNLIKE, sums, net.pointCount)) {
                    int spread = Rules.spreadOf(sums, net.pointCount);
                    least = least == NONE ? spread : Math.min(least, spread);
                }
                nextOrder();
            }
            return least;
        }

        private void beginOrders() {
            begin();
            for (int line = 0; line < net.lineCount; line++) {
                relabel(line, line + 1);
            }
        }

        private void nextOrder() {
            int last = net.lineCount - 1;
            int at = last - 1;
            while (at >= 0 && labels[at] > labels[at + 1]) {
                at--;
            }
            if (at < 0) {
                return;
            }
            int greater = last;
            while (greater > at + 1 && labels[greater] < labels[at]) {
                greater--;
            }
            exchange(at, greater);
            int low = at + 1;
            for (int high = last; high > low; high--) {
                exchange(low, high);
                low++;
            }
        }

        private void exchange(int one, int other) {
            int label = labels[one];
            relabel(one, labels[other]);
            relabel(other, label);
        }

        int lotsThatKeep(int rule, int n, int z) {
            begin();
            seed = z;
            int often = 0;
            for (int time = 0; time < n; time++) {
                drawLabels();
                if (Rules.holds(rule, sums, net.pointCount)) {
                    often++;
                }
            }
            return often;
        }

        int lotsTogether(int n, int z) {
            begin();
            seed = z;
            int all = 0;
            for (int time = 0; time < n; time++) {
                drawLabels();
                all += Rules.together(sums, net.pointCount);
            }
            return all;
        }

        private void drawLabels() {
            for (int line = 0; line < net.lineCount; line++) {
                seed = seed * 1664525 + 1013904223;
                relabel(line, (seed & ALL_BUT_SIGN) / 256 % 10);
            }
        }

        static int power(int base, int times) {
            int all = 1;
            for (int i = 0; i < times; i++) {
                all *= base;
            }
            return all;
        }

        private static int ordersOf(int many) {
            int all = 1;
            for (int i = 2; i <= many; i++) {
                all *= i;
            }
            return all;
        }
    }

    /** The rank of the table, and what hangs together by lines. */
    private static final class Shape {
        // No minor of the table is as great as this prime (a line has two weights at most,
        // 13 together at most, and there are 7 points: 13 to the 7th bounds them),
        // so that the rank by remainders of it is the rank by fractions.
        private static final long PRIME = 2147483647L;

        private final Net net;
        private final long[][] rows = new long[MOST_POINTS][MOST_LINES];

        Shape(Net net) {
            this.net = net;
        }

        int rankOfTable() {
            for (int point = 0; point < net.pointCount; point++) {
                for (int line = 0; line < net.lineCount; line++) {
                    rows[point][line] = net.weight(point, line);
                }
            }
            int rank = 0;
            for (int line = 0; line < net.lineCount && rank < net.pointCount; line++) {
                if (bringUp(rank, line)) {
                    clearBelow(rank, line);
                    rank++;
                }
            }
            return rank;
        }

        /** Whether a row from this one on is not 0 at the line; the first such one comes up here. */
        private boolean bringUp(int row, int line) {
            for (int lower = row; lower < net.pointCount; lower++) {
                if (rows[lower][line] != 0) {
                    exchangeRows(row, lower);
                    return true;
                }
            }
            return false;
        }

        private void exchangeRows(int one, int other) {
            for (int line = 0; line < net.lineCount; line++) {
                long weight = rows[one][line];
                rows[one][line] = rows[other][line];
                rows[other][line] = weight;
            }
        }

        private void clearBelow(int row, int line) {
            long head = rows[row][line];
            for (int lower = row + 1; lower < net.pointCount; lower++) {
                long first = rows[lower][line];
                for (int at = line; at < net.lineCount; at++) {
                    rows[lower][at] = (rows[lower][at] * head - rows[row][at] * first) % PRIME;
                }
            }
        }

        /**
         * The points reached by an even number of lines (bits from 0 on)
         * and by an odd number of lines (bits from 7 on).
         */
        private int reached(int point) {
            int bits = 1 << point;
            for (int round = 0; round < 2 * MOST_POINTS; round++) {
                int before = bits;
                for (int line = 0; line < net.lineCount; line++) {
                    bits |= across(bits, net.firsts[line], net.seconds[line]);
                    bits |= across(bits, net.seconds[line], net.firsts[line]);
                }
                if (bits == before) {
                    break;
                }
            }
            return bits;
        }

        private static int across(int bits, int from, int to) {
            int evenTo = (bits >> from & 1) << to + MOST_POINTS;
            int oddTo = (bits >> from + MOST_POINTS & 1) << to;
            return evenTo | oddTo;
        }

        int partOf(int point) {
            int bits = reached(point);
            return (bits | bits >> MOST_POINTS) & (1 << MOST_POINTS) - 1;
        }

        int partCount() {
            int many = 0;
            for (int point = 0; point < net.pointCount; point++) {
                if (leastOf(partOf(point)) == point) {
                    many++;
                }
            }
            return many;
        }

        private static int leastOf(int bits) {
            int point = 0;
            while (point < MOST_POINTS && (bits >> point & 1) == 0) {
                point++;
            }
            return point;
        }

        /** There are no sides just if some point comes back to itself by an odd number of lines. */
        boolean hasSides() {
            for (int point = 0; point < net.pointCount; point++) {
                if (isOddFrom(point, point)) {
                    return false;
                }
            }
            return true;
        }

        int sideOf(int point) {
            return isOddFrom(leastOf(partOf(point)), point) ? 1 : 0;
        }

        private boolean isOddFrom(int from, int point) {
            return (reached(from) >> point + MOST_POINTS & 1) != 0;
        }
    }

    /** The letters that have come, and the text that they tell. */
    private static final class Letters {
        private static final int STATEMENT_DUE = -1;
        private static final int NO_FAULT = -1;

        private final int[] signs = new int[MOST_LETTERS];
        private final Net trial = new Net();
        int count = 0;

        /** Brings a letter; the caller has seen that there is room. */
        void add(int c) {
            signs[count] = c;
            count++;
        }

        /** How many statements there are, which then have come into the net; else the fault. */
        int tell(Net net) {
            int place = misspelt();
            if (place != NO_FAULT) {
                return -1000 - place;
            }
            trial.copyFrom(net);
            int statements = 0;
            for (int at = 0; at < count; at += 2 + Math.max(0, digitsBehind(signs[at]))) {
                if (!comes(at)) {
                    return -2000 - at;
                }
                statements++;
            }
            net.copyFrom(trial);
            return statements;
        }

        private int misspelt() {
            int digitsDue = STATEMENT_DUE;
            for (int i = 0; i < count; i++) {
                int sign = signs[i];
                if (digitsDue == STATEMENT_DUE) {
                    digitsDue = digitsBehind(sign);
                    if (digitsDue < 0) {
                        return i;
                    }
                } else if (digitsDue > 0) {
                    if (sign < '0' || sign > '9') {
                        return i;
                    }
                    digitsDue--;
                } else {
                    if (sign != ';') {
                        return i;
                    }
                    digitsDue = STATEMENT_DUE;
                }
            }
            return count > 0 && digitsDue == STATEMENT_DUE ? NO_FAULT : count;
        }

        private static int digitsBehind(int sign) {
            switch (sign) {
                case 'n':
                    return 1;
                case 'f':
                    return 2;
                case 'l':
                case 'v':
                    return 3;
                default:
                    return -1;
            }
        }

        private int digit(int place) {
            return place < count ? signs[place] - '0' : 0;
        }

        /** Whether the statement at a place can be, behind those ahead; then it has come. */
        private boolean comes(int at) {
            int one = digit(at + 1);
            int two = digit(at + 2);
            int three = digit(at + 3);
            switch (signs[at]) {
                case 'n':
                    return comesPoints(one);
                case 'l':
                    return comesLine(one, two, three);
                case 'f':
                    return comesFigure(one, two);
                default:
                    return comesLabel(one, 10 * two + three);
            }
        }

        private boolean comesPoints(int n) {
            if (n < 1 || n > MOST_POINTS) {
                return false;
            }
            trial.restart(n);
            return true;
        }

        private boolean comesLine(int kind, int one, int other) {
            if (!isKind(kind) || !trial.hasPoint(one) || !trial.hasPoint(other)
                || trial.lineCount >= MOST_LINES) {
                return false;
            }
            trial.add(kind, one, other);
            return true;
        }

        private boolean comesFigure(int line, int figure) {
            if (!trial.hasLine(line)) {
                return false;
            }
            trial.figures[line] = figure;
            return true;
        }

        private boolean comesLabel(int line, int v) {
            if (!trial.hasLine(line)) {
                return false;
            }
            trial.labels[line] = v;
            return true;
        }
    }

    /** The text that tells a net. */
    private static final class Writing {
        // n with a digit, and for each line l, f and v with theirs, each with ";" behind.
        private static final int MOST_SIGNS = 3 + MOST_LINES * (5 + 4 + 5);

        final int[] signs = new int[MOST_SIGNS];
        int count = 0;

        void write(Net net) {
            count = 0;
            add('n');
            addDigit(net.pointCount);
            add(';');
            for (int line = 0; line < net.lineCount; line++) {
                writeLine(net, line);
            }
        }

        private void writeLine(Net net, int line) {
            add('l');
            addDigit(net.kinds[line]);
            addDigit(net.firsts[line]);
            addDigit(net.seconds[line]);
            add(';');
            if (net.figures[line] != 0) {
                add('f');
                addDigit(line);
                addDigit(net.figures[line]);
                add(';');
            }
            if (net.labels[line] != 0) {
                add('v');
                addDigit(line);
                addDigit(net.labels[line] / 10);
                addDigit(net.labels[line] % 10);
                add(';');
            }
        }

        private void addDigit(int digit) {
            add('0' + digit);
        }

        private void add(int sign) {
            if (count < MOST_SIGNS) {
                signs[count] = sign;
                count++;
            }
        }
    }

    /** The lists of numbers; a missing one has a size below 0. */
    private static final class Lists {
        final int[][] rows = new int[LISTS][MOST_PLACES];
        final int[] sizes = new int[LISTS];

        Lists() {
            for (int list = 0; list < LISTS; list++) {
                sizes[list] = -1;
            }
        }

        boolean isMissing(int list) {
            return sizes[list] < 0;
        }

        void renew(int list, int n) {
            for (int i = 0; i < n; i++) {
                rows[list][i] = 0;
            }
            sizes[list] = n;
        }

        boolean allWithin(int list, int least, int most) {
            for (int i = 0; i < sizes[list]; i++) {
                if (rows[list][i] < least || rows[list][i] > most) {
                    return false;
                }
            }
            return true;
        }
    }
}
