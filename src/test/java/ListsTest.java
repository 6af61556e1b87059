/** Promises 28 to 34: lists of numbers. */
public final class ListsTest {
    private static final Due DUE = new Due("ListsTest");
    private static final long LONG = 4000000000000000000L;

    public static void main(String[] args) {
        list();
        putAndLook();
        lays();
        judge();
        gives();
        rules();
        DUE.end();
    }

    private static void list() {
        LabelsOfLines x = new LabelsOfLines();
        DUE.is("28 list 3", x.list(3, 41), -1);
        DUE.is("28 list -1", x.list(-1, -1), -1);
        DUE.is("28 n 41", x.list(0, 41), -6);
        DUE.is("28 n -1", x.list(0, -1), -14);
        DUE.is("28 n least", x.list(0, Integer.MIN_VALUE), -14);
        DUE.is("28 still missing", x.put(0, 0, 1), -11);
        DUE.is("28 -1 counted", x.count(11), 2);
        DUE.is("28 -4 not", x.count(14), 0);
        DUE.is("28 -6 counted", x.count(16), 1);
        DUE.is("28 n 0", x.list(0, 0), 1);
        DUE.is("28 n 40", x.list(2, 40), 1);
        DUE.is("28 the last place", x.put(2, 39, 5), 1);
        x.put(2, 0, 6);
        DUE.is("28 anew", x.list(2, 40), 1);
        DUE.is("28 all 0", x.look(2, 39), 0);
        DUE.is("28 all 0 from place 0 on", x.look(2, 0), 0);
        DUE.is("28 the others stay", x.look(1, 0), LONG + 11);
        x.put(2, 1, 8);
        DUE.is("28 -14 leaves it", x.list(2, -2), -14);
        DUE.is("28 as it was", x.look(2, 1), 8);
        x.list(2, 1);
        x.list(2, 2);
        DUE.is("28 lesser and greater again: 0", x.look(2, 1), 0);
    }

    private static void putAndLook() {
        LabelsOfLines x = new LabelsOfLines();
        DUE.is("29 list 3", x.put(3, 0, 0), -1);
        DUE.is("29 list -1", x.put(-1, 0, 0), -1);
        DUE.is("29 missing", x.put(0, -1, 0), -11);
        DUE.is("30 list 3", x.look(3, 0), LONG + 1);
        DUE.is("30 list -1", x.look(-1, 0), LONG + 1);
        DUE.is("30 missing", x.look(0, -1), LONG + 11);
        x.list(0, 3);
        DUE.is("29 place 3", x.put(0, 3, 0), -13);
        DUE.is("29 place -1", x.put(0, -1, 0), -13);
        DUE.is("30 place 3", x.look(0, 3), LONG + 13);
        DUE.is("30 place -1", x.look(0, -1), LONG + 13);
        DUE.is("29 put", x.put(0, 2, Integer.MIN_VALUE), 1);
        DUE.is("29 put most", x.put(0, 1, Integer.MAX_VALUE), 1);
        DUE.is("30 look", x.look(0, 2), Integer.MIN_VALUE);
        DUE.is("30 look most", x.look(0, 1), Integer.MAX_VALUE);
        DUE.is("30 look 0", x.look(0, 0), 0);
        DUE.is("29 30 -1 counted", x.count(11), 4);
        DUE.is("29 30 -3 not", x.count(13), 0);
    }

    private static void lays() {
        LabelsOfLines x = Due.of("n3;l001;v004;l122;v109;");
        DUE.is("31 list 3", x.lays(3, 0), -1);
        DUE.is("31 list -1", x.lays(-1, 0), -1);
        DUE.is("31 missing", x.lays(1, 0), -11);
        Due.fill(x, 1, 7, 7, 7, 7, 7);
        DUE.is("31 place 3", x.lays(1, 3), -13);
        DUE.is("31 place -1", x.lays(1, -1), -13);
        DUE.is("31 place most", x.lays(1, Integer.MAX_VALUE), -13);
        DUE.is("31 place least", x.lays(1, Integer.MIN_VALUE), -13);
        DUE.is("31 none is laid", x.look(1, 3), 7);
        DUE.is("31 from 1 on", x.lays(1, 1), 3);
        long[] due = {7, 4, 4, 9, 7};
        for (int i = 0; i < due.length; i++) {
            DUE.is("31 place " + i, x.look(1, i), due[i]);
        }
        DUE.is("31 from 2 on", x.lays(1, 2), 3);
        DUE.is("31 the last place", x.look(1, 4), 9);
        x.list(1, 2);
        DUE.is("31 too few", x.lays(1, 0), -13);
        DUE.is("31 -1 counted", x.count(11), 2);
    }

    private static void judge() {
        LabelsOfLines x = Due.of("n3;l001;v004;l122;v109;");
        DUE.is("32 list 3", x.judge(3), -1);
        DUE.is("32 list -1", x.judge(-1), -1);
        DUE.is("32 missing", x.judge(2), -11);
        DUE.is("32 -1 counted", x.count(11), 2);
        Due.fill(x, 2, 4, 4, 9);
        DUE.is("32 as they are", x.judge(2), -9);
        Due.fill(x, 2, 4, 4);
        DUE.is("32 fewer", x.judge(2), -9);
        Due.fill(x, 2);
        DUE.is("32 none", x.judge(2), -9);
        Due.fill(x, 2, 5, 4, 8);
        DUE.is("32 otherwise at 0", x.judge(2), 0);
        Due.fill(x, 2, 4, 4, -9);
        DUE.is("32 otherwise at 2", x.judge(2), 2);
        Due.fill(x, 2, 4, 4, 9, 0);
        DUE.is("32 that isn't there", x.judge(2), 3);
        x.list(0, 40);
        x.lays(0, 0);
        DUE.is("32 more that aren't there", x.judge(0), 3);
    }

    private static void gives() {
        LabelsOfLines x = Due.of("n3;l001;v004;l122;v109;");
        DUE.is("33 list 3", x.gives(3), -1);
        DUE.is("33 list -1", x.gives(-1), -1);
        DUE.is("33 missing", x.gives(0), -11);
        int[][] bad = {{}, {1}, {1, 2, 3}, {1, 100}, {-1, 2}, {1, Integer.MIN_VALUE}, {Integer.MAX_VALUE, 1}};
        for (int[] numbers : bad) {
            Due.fill(x, 0, numbers);
            DUE.is("33 not as it must be", x.gives(0), -3);
        }
        DUE.is("33 nothing came", Due.same(Due.written(x), "n3;l001;v004;l122;v109;"), 1);
        DUE.is("33 no change to undo", x.count(3), 0);
        Due.fill(x, 0, 99, 0);
        DUE.is("33 given", x.gives(0), 2);
        DUE.is("33 as given", Due.same(Due.written(x), "n3;l001;v099;l122;"), 1);
        DUE.is("33 the list stays", x.look(0, 0), 99);
        DUE.is("33 -1 counted", x.count(11), 2);
        DUE.is("33 -3 counted", x.count(13), bad.length);
        Due.fill(x, 0, 3, 4, 1000);
        Due.fill(x, 0, 5, 6);
        DUE.is("33 what a longer one told is no more", x.gives(0), 2);
        LabelsOfLines bare = new LabelsOfLines();
        bare.list(0, 0);
        DUE.is("33 none without lines", bare.gives(0), 0);
        DUE.is("33 that can be undone", bare.count(3), 1);
        bare.list(0, 1);
        DUE.is("33 one without lines", bare.gives(0), -3);
    }

    private static void rules() {
        LabelsOfLines x = new LabelsOfLines();
        DUE.is("34 list 3", x.rules(3), -1);
        DUE.is("34 list -1", x.rules(-1), -1);
        DUE.is("34 missing", x.rules(0), -11);
        x.list(0, 0);
        DUE.is("34 none", x.rules(0), -3);
        x.list(0, 8);
        DUE.is("34 eight", x.rules(0), -3);
        DUE.is("34 -1 counted", x.count(11), 2);
        DUE.is("34 -3 counted", x.count(13), 2);
        int[][] told = {{0}, {2}, {3}, {-3}, {0, 0, 0, 0, 0, 0, 0}, {1, 2, 3, 4, 5, 6, 7}, {1, 2, 3, 4, 5, 6, 15},
            {14, 14}, {4, 4}, {5, 4}, {-2, -4}, {Integer.MIN_VALUE, Integer.MAX_VALUE},
            {Integer.MAX_VALUE, Integer.MIN_VALUE}, {1, 1, 2}, {2, 4, 2}, {1, 3, 2}};
        int[] bits = {0b011111, 0b011111, 0b000111, 0b010111, 0b011001, 0b010110, 0b000110,
            0b001001, 0b011001, 0b000010, 0b011010, 0b000110,
            0b000010, 0b110000, 0b111000, 0b010010};
        for (int i = 0; i < told.length; i++) {
            Due.fill(x, 0, told[i]);
            DUE.is("34 rules of row " + i, x.rules(0), bits[i]);
        }
    }
}
