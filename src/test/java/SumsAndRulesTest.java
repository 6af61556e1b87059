/** Promises 12 to 23: sums, rules, ways, magic, differences, orders, odds, lots. */
public final class SumsAndRulesTest {
    private static final Due DUE = new Due("SumsAndRulesTest");
    private static final long LONG = 4000000000000000000L;

    public static void main(String[] args) {
        sums();
        rules();
        rulesOfOnePoint();
        ranked();
        ways();
        waysWithoutLines();
        magic();
        difference();
        settled();
        orders();
        spread();
        odds();
        lots();
        DUE.end();
    }

    private static void sums() {
        LabelsOfLines x = Due.of("n4;l001;l112;l223;l330;l413;f42;v412;v003;");
        int[] due = {3, 51, 0, 24};
        for (int point = 0; point < 4; point++) {
            DUE.is("12 sum(" + point + ")", x.sum(point), due[point]);
        }
        DUE.is("12 point 4", x.sum(4), -1);
        DUE.is("12 point -1", x.sum(-1), -1);
        DUE.is("12 -1 counted", x.count(11), 2);
        DUE.is("13 total()", x.total(), 78);
        LabelsOfLines full = Due.of("n1;l400;l400;l400;l400;l400;l400;l400;l400;");
        for (int line = 0; line < 8; line++) {
            full.turn(line, 4, 9);
            full.label(line, 99);
        }
        DUE.is("12 the greatest", full.sum(0), 8 * 13 * 99);
        DUE.is("13 the greatest", full.total(), 8 * 13 * 99);
        DUE.is("13 without lines", new LabelsOfLines().total(), 0);
    }

    private static void rules() {
        LabelsOfLines x = Due.of("n3;l100;l111;l122;");
        int[][] labels = {{2, 2, 2}, {1, 2, 3}, {3, 1, 2}, {7, 7, 8}, {0, 6, 4}, {0, 7, 8}, {2, 2, 4}, {0, 0, 6},
            {7, 0, 0}, {1, 2, 2}, {2, 1, 2}};
        int[] bits = {0b011001, 0b010110, 0b010010, 0b100000, 0b011010, 0b000110, 0b111000, 0b111000,
            0b100000, 0b110000, 0b110000};
        for (int i = 0; i < labels.length; i++) {
            for (int line = 0; line < 3; line++) {
                x.label(line, labels[i][line]);
            }
            for (int rule = 0; rule < 6; rule++) {
                DUE.is("14 rule(" + rule + ") of row " + i, x.rule(rule), bits[i] >> rule & 1);
            }
        }
        rulesOfSevenPoints();
        DUE.is("14 rule 6", x.rule(6), -2);
        DUE.is("14 rule -1", x.rule(-1), -2);
        DUE.is("14 -2 counted", x.count(12), 2);
    }

    private static void rulesOfSevenPoints() {
        LabelsOfLines x = Due.of("n7;l100;l111;l122;l133;l144;l155;l166;l166;");
        Due.tell(x, "v102;v204;v306;v408;v510;v612;v702;");
        int[] due = {0, 1, 1, 1, 1, 0};
        for (int rule = 0; rule < 6; rule++) {
            DUE.is("14 seven points: rule(" + rule + ")", x.rule(rule), due[rule]);
        }
        DUE.is("15 seven points: the first", x.ranked(0), 6);
        DUE.is("15 seven points: the last", x.ranked(6), 0);
        DUE.is("15 seven points: no more", x.ranked(7), -9);
        DUE.is("13 seven points", x.total(), 44);
        x.label(7, 3);
        DUE.is("14 above twice seven", x.rule(4), 0);
    }

    private static void rulesOfOnePoint() {
        LabelsOfLines x = Due.of("n1;l100;v003;");
        int[] due = {1, 1, 1, 0, 0, 0};
        for (int rule = 0; rule < 6; rule++) {
            DUE.is("14 one point: rule(" + rule + ")", x.rule(rule), due[rule]);
        }
        x.label(0, 2);
        DUE.is("14 just twice n", x.rule(4), 1);
    }

    private static void ranked() {
        LabelsOfLines x = Due.of("n5;l100;l111;l122;l133;v005;v109;v205;v309;");
        int[] due = {1, 3, 0, 2, 4, -9, -9};
        for (int k = 0; k < due.length; k++) {
            DUE.is("15 ranked(" + k + ")", x.ranked(k), due[k]);
        }
        DUE.is("15 ranked(most)", x.ranked(Integer.MAX_VALUE), -9);
        DUE.is("15 ranked(-1)", x.ranked(-1), -4);
        DUE.is("15 -4 counted", x.count(14), 1);
        DUE.is("15 of like ones the lesser", new LabelsOfLines().ranked(2), 2);
    }

    private static void ways() {
        LabelsOfLines x = Due.of("n2;l100;l111;v005;");
        // The labels are the sums: (a, b), a the slower one.
        int[] many = {4, 12, 6, 4, 16, 0};
        for (int rule = 0; rule < 6; rule++) {
            DUE.is("16 ways(" + rule + ", 3, -1)", x.ways(rule, 3, -1, 99), many[rule]);
        }
        int[][] rising = {{0, 1}, {0, 2}, {0, 3}, {1, 2}, {1, 3}, {2, 3}};
        for (int i = 0; i < 6; i++) {
            DUE.is("16 rising " + i + ", line 0", x.ways(2, 3, i, 0), rising[i][0]);
            DUE.is("16 rising " + i + ", line 1", x.ways(2, 3, i, 1), rising[i][1]);
        }
        DUE.is("16 rising 6", x.ways(2, 3, 6, 1), -9);
        DUE.is("16 rising most", x.ways(2, 3, Integer.MAX_VALUE, 0), -9);
        DUE.is("16 k 0", x.ways(0, 0, -1, 0), 1);
        DUE.is("16 k 0, none", x.ways(1, 0, 0, 0), -9);
        DUE.is("16 in thought", x.of(0, 4), 5);
        DUE.is("16 rule 6", x.ways(6, -1, -2, -1), -2);
        DUE.is("16 rule -1", x.ways(-1, 0, -1, 0), -2);
        DUE.is("16 k -1", x.ways(0, -1, -1, 0), -4);
        DUE.is("16 i -2 and k 4", x.ways(0, 4, -2, 0), -4);
        DUE.is("16 k 4 and line 2", x.ways(0, 4, 0, 2), -6);
        DUE.is("16 line 2", x.ways(0, 3, 0, 2), -1);
        DUE.is("16 line -1", x.ways(0, 3, 99, -1), -1);
        DUE.is("16 -1 counted", x.count(11), 2);
        DUE.is("16 -2 counted", x.count(12), 2);
        DUE.is("16 -4 counted", x.count(14), 2);
        DUE.is("16 -6 counted", x.count(16), 1);
        LabelsOfLines full = Due.of("n1;l000;l000;l000;l000;l000;l000;l000;l000;");
        DUE.is("16 eight lines", full.ways(0, 3, -1, 0), 65536);
        DUE.is("16 the last way", full.ways(0, 3, 65535, 0), 3);
        DUE.is("16 the last but one", full.ways(0, 3, 65534, 7), 2);
        DUE.is("16 one more", full.ways(0, 3, 65536, 0), -9);
    }

    private static void waysWithoutLines() {
        LabelsOfLines x = new LabelsOfLines();
        int[] many = {1, 0, 0, 1, 1, 0};
        for (int rule = 0; rule < 6; rule++) {
            DUE.is("16 without lines " + rule, x.ways(rule, 2, -1, 0), many[rule]);
        }
        DUE.is("16 without lines, the first", x.ways(0, 2, 0, 0), -1);
    }

    private static void magic() {
        LabelsOfLines x = Due.of("n2;l001;l001;l100;v001;");
        // a + b + c = r at 0, a + b = r at 1: c is 0.
        for (int r = 0; r <= 6; r++) {
            DUE.is("17 magic(" + r + ", -1)", x.magic(r, -1, 9), r + 1);
            for (int i = 0; i <= r; i++) {
                DUE.is("17 magic " + r + ", " + i + " of line 0", x.magic(r, i, 0), i);
                DUE.is("17 magic " + r + ", " + i + " of line 1", x.magic(r, i, 1), r - i);
                DUE.is("17 magic " + r + ", " + i + " of line 2", x.magic(r, i, 2), 0);
            }
            DUE.is("17 magic " + r + ", no more", x.magic(r, r + 1, 0), -9);
        }
        DUE.is("17 in thought", x.of(0, 4), 1);
        DUE.is("17 r -1 and line 3", x.magic(-1, 0, 3), -4);
        DUE.is("17 r 7 and i -2", x.magic(7, -2, 0), -4);
        DUE.is("17 r 7 and line 3", x.magic(7, 0, 3), -6);
        DUE.is("17 line 3", x.magic(6, 0, 3), -1);
        DUE.is("17 line -1", x.magic(6, 99, -1), -1);
        DUE.is("17 -1 counted", x.count(11), 2);
        DUE.is("17 -4 counted", x.count(14), 2);
        DUE.is("17 -6 counted", x.count(16), 1);
        magicOfOthers();
    }

    private static void magicOfOthers() {
        LabelsOfLines bare = new LabelsOfLines();
        DUE.is("17 without lines, r 0", bare.magic(0, -1, 0), 1);
        DUE.is("17 without lines, r 1", bare.magic(1, -1, 0), 0);
        DUE.is("17 without lines, a line", bare.magic(0, 0, 0), -1);
        LabelsOfLines far = Due.of("n3;l001;l001;");
        DUE.is("17 a point without lines, r 0", far.magic(0, -1, 0), 1);
        DUE.is("17 a point without lines, r 2", far.magic(2, -1, 0), 0);
        DUE.is("17 the first point without lines", Due.of("n2;l111;").magic(2, -1, 0), 0);
        LabelsOfLines one = Due.of("n2;l101;l101;");
        DUE.is("17 a point of weight 0, r 0", one.magic(0, -1, 0), 1);
        DUE.is("17 a point of weight 0, r 1", one.magic(1, -1, 0), 0);
        LabelsOfLines loops = Due.of("n2;l100;l100;l100;l100;l111;l111;l111;l111;");
        DUE.is("17 the most", loops.magic(6, -1, 0), 84 * 84);
        DUE.is("17 the last", loops.magic(6, 84 * 84 - 1, 0), 6);
        DUE.is("17 the last but one", loops.magic(6, 84 * 84 - 2, 5), 1);
        LabelsOfLines twice = Due.of("n1;l200;");
        DUE.is("17 weight 4, r 4", twice.magic(4, 0, 0), 1);
        DUE.is("17 weight 4, r 6", twice.magic(6, -1, 0), 0);
        LabelsOfLines heavy = Due.of("n1;l400;f03;l100;");
        DUE.is("17 weights 7, 1", heavy.magic(6, -1, 0), 1);
        DUE.is("17 labels of weights 7, 1", heavy.magic(6, 0, 1), 6);
        LabelsOfLines ring = Due.of("n4;l001;l012;l023;l030;");
        DUE.is("17 a ring of four", ring.magic(5, -1, 0), 6);
        DUE.is("17 its second", ring.magic(5, 1, 1), 4);
    }

    private static void difference() {
        LabelsOfLines x = Due.of("n1;l100;l100;l100;");
        // The row is 1, 3, 6, 10, 15, 21, 28.
        int[][] due = {{1, 3, 6, 10, 15, 21, 28}, {2, 3, 4, 5, 6, 7}, {1, 1, 1, 1, 1}, {0, 0, 0, 0}, {0, 0, 0},
            {0, 0}, {0}};
        for (int j = 0; j <= 6; j++) {
            for (int r = 0; r <= 6 - j; r++) {
                DUE.is("18 difference(" + j + ", " + r + ")", x.difference(j, r), due[j][r]);
            }
        }
        DUE.is("18 j -1", x.difference(-1, 9), 1000000004);
        DUE.is("18 r -1", x.difference(9, -1), 1000000004);
        DUE.is("18 j 7", x.difference(7, 0), 1000000006);
        DUE.is("18 r 7", x.difference(0, 7), 1000000006);
        DUE.is("18 together 7", x.difference(3, 4), 1000000006);
        DUE.is("18 together beyond ints", x.difference(Integer.MAX_VALUE, Integer.MAX_VALUE), 1000000006);
        DUE.is("18 -4 counted", x.count(14), 2);
        DUE.is("18 -6 counted", x.count(16), 4);
        LabelsOfLines even = Due.of("n1;l000;");
        // The row is 1, 0, 1, 0, 1, 0, 1.
        DUE.is("18 of signs", even.difference(6, 0), 1 + 15 + 15 + 1);
        DUE.is("18 of other signs", even.difference(5, 1), 5 + 10 + 1);
    }

    private static void settled() {
        DUE.is("19 a third-of-square row", Due.of("n1;l100;l100;l100;").settled(), 2);
        DUE.is("19 a like row", Due.of("n1;l100;").settled(), 0);
        DUE.is("19 a straight row", Due.of("n2;l001;l001;l100;").settled(), 1);
        DUE.is("19 squares", Due.of("n2;l100;l100;l111;l111;").settled(), 2);
        DUE.is("19 without lines", new LabelsOfLines().settled(), 6);
        DUE.is("19 six at most", Due.of("n1;l000;").settled(), 6);
        DUE.is("19 six lines", Due.of("n1;l100;l100;l100;l100;l100;l100;").settled(), 5);
        DUE.is("19 seven lines", Due.of("n1;l100;l100;l100;l100;l100;l100;l100;").settled(), 6);
        DUE.is("19 eight lines", Due.of("n1;l100;l100;l100;l100;l100;l100;l100;l100;").settled(), 6);
    }

    private static void orders() {
        LabelsOfLines x = Due.of("n3;l100;l111;l122;v077;");
        int[][] due = {{1, 2, 3}, {1, 3, 2}, {2, 1, 3}, {2, 3, 1}, {3, 1, 2}, {3, 2, 1}};
        DUE.is("20 how many", x.orders(-1, -5), 6);
        for (int i = 0; i < 6; i++) {
            for (int line = 0; line < 3; line++) {
                DUE.is("20 orders(" + i + ", " + line + ")", x.orders(i, line), due[i][line]);
            }
        }
        DUE.is("20 a seventh", x.orders(6, 0), -9);
        DUE.is("20 in thought", x.of(0, 4), 77);
        DUE.is("20 i -2", x.orders(-2, 9), -4);
        DUE.is("20 line 3", x.orders(0, 3), -1);
        DUE.is("20 line -1", x.orders(99, -1), -1);
        DUE.is("20 -1 counted", x.count(11), 2);
        DUE.is("20 -4 counted", x.count(14), 1);
        LabelsOfLines path = Due.of("n3;l001;l012;");
        DUE.is("20 a path", path.orders(-1, 0), 2);
        LabelsOfLines edge = Due.of("n2;l001;");
        DUE.is("20 one line of two points", edge.orders(-1, 0), 0);
        DUE.is("20 none of it", edge.orders(0, 0), -9);
        LabelsOfLines loop = Due.of("n1;l000;l000;l000;l000;l000;l000;l000;l000;");
        DUE.is("20 all orders of eight", loop.orders(-1, 0), 40320);
        DUE.is("20 the last of them", loop.orders(40319, 0), 8);
        DUE.is("20 none behind it", loop.orders(40320, 0), -9);
        DUE.is("20 the 5040th begins", loop.orders(5040, 0), 2);
        DUE.is("20 and goes on", loop.orders(5040, 1), 1);
        DUE.is("20 no lines, four points", new LabelsOfLines().orders(-1, 0), 0);
        DUE.is("20 no lines, one point", Due.of("n1;").orders(-1, 0), 1);
        DUE.is("20 no such line", Due.of("n1;").orders(0, 0), -1);
    }

    private static void spread() {
        DUE.is("21 three alone", Due.of("n3;l100;l111;l122;").spread(), 2);
        // Sums a, a + b, b: with 1, 2 they are 1, 3, 2.
        DUE.is("21 a path", Due.of("n3;l001;l012;").spread(), 2);
        // Sums a + b, c + d: 1 + 4 and 2 + 3 are like ones, 1 + 3 and 2 + 4 are not.
        DUE.is("21 the least of all", Due.of("n2;l100;l100;l111;l111;").spread(), 2);
        DUE.is("21 there is none", Due.of("n2;l001;").spread(), -9);
        DUE.is("21 one point", Due.of("n1;l000;l000;").spread(), 0);
        DUE.is("21 no lines", new LabelsOfLines().spread(), -9);
        DUE.is("21 no lines, one point", Due.of("n1;").spread(), 0);
    }

    private static void odds() {
        LabelsOfLines x = Due.of("n2;l100;l111;");
        // Of 16: like 4, unlike 12, rising 6, even 4, few 16, mixed 0.
        long[][] due = {{1, 4}, {3, 4}, {3, 8}, {1, 4}, {1, 1}, {0, 1}};
        for (int rule = 0; rule < 6; rule++) {
            DUE.is("22 odds(" + rule + ", 3, 0)", x.odds(rule, 3, 0), due[rule][0]);
            DUE.is("22 odds(" + rule + ", 3, 1)", x.odds(rule, 3, 1), due[rule][1]);
        }
        DUE.is("22 k 0 above", x.odds(0, 0, 0), 1);
        DUE.is("22 k 0 below", x.odds(0, 0, 1), 1);
        DUE.is("22 rule 6", x.odds(6, -1, 2), LONG + 2);
        DUE.is("22 rule -1", x.odds(-1, 0, 0), LONG + 2);
        DUE.is("22 k -1", x.odds(0, -1, 2), LONG + 4);
        DUE.is("22 k 4", x.odds(0, 4, 2), LONG + 6);
        DUE.is("22 part 2", x.odds(0, 3, 2), LONG + 2);
        DUE.is("22 part -1", x.odds(0, 3, -1), LONG + 2);
        DUE.is("22 -2 counted", x.count(12), 4);
        DUE.is("22 -4 counted", x.count(14), 1);
        DUE.is("22 -6 counted", x.count(16), 1);
        LabelsOfLines bare = new LabelsOfLines();
        DUE.is("22 no lines above", bare.odds(0, 3, 0), 1);
        DUE.is("22 no lines below", bare.odds(0, 3, 1), 1);
        DUE.is("22 no lines, 0 by 1, above", bare.odds(1, 3, 0), 0);
        DUE.is("22 no lines, 0 by 1, below", bare.odds(1, 3, 1), 1);
        LabelsOfLines full = Due.of("n2;l001;l001;l001;l001;l001;l001;l001;l100;");
        DUE.is("22 eight lines above", full.odds(1, 3, 0), 3);
        DUE.is("22 eight lines below", full.odds(1, 3, 1), 4);
        LabelsOfLines eight = Due.of("n1;l100;l100;l100;l100;l100;l100;l100;l100;");
        // Together 2 at most of labels 0 .. 2: 1 + 8 + 8 + 28 of 6561.
        DUE.is("22 thirds above", eight.odds(4, 2, 0), 5);
        DUE.is("22 thirds below", eight.odds(4, 2, 1), 729);
    }

    private static void lots() {
        LabelsOfLines x = Due.of("n2;l100;l111;v033;");
        // The draws are worked out here with wider numbers than the class uses.
        for (int z : new int[] {0, 1, -1, 12345, Integer.MIN_VALUE, Integer.MAX_VALUE}) {
            for (int n : new int[] {1, 2, 17, 50}) {
                long state = z;
                int[] often = new int[6];
                int totals = 0;
                for (int time = 0; time < n; time++) {
                    int[] drawn = new int[2];
                    for (int i = 0; i < 2; i++) {
                        state = Math.floorMod(state * 1664525L + 1013904223L, 4294967296L);
                        drawn[i] = (int) (state % 2147483648L / 256 % 10);
                    }
                    totals += drawn[0] + drawn[1];
                    often[0] += drawn[0] == drawn[1] ? 1 : 0;
                    often[1] += drawn[0] != drawn[1] ? 1 : 0;
                    often[2] += drawn[0] < drawn[1] ? 1 : 0;
                    often[3] += drawn[0] % 2 == 0 && drawn[1] % 2 == 0 ? 1 : 0;
                    often[4] += drawn[0] <= 4 && drawn[1] <= 4 ? 1 : 0;
                }
                for (int rule = 0; rule < 6; rule++) {
                    DUE.is("23 lots(" + rule + ", " + n + ", " + z + ", 0)", x.lots(rule, n, z, 0), often[rule]);
                    DUE.is("23 lots(" + rule + ", " + n + ", " + z + ", 1)", x.lots(rule, n, z, 1), totals);
                }
            }
        }
        // 1013904223 without its sign's bit, divided by 256, is 3960563: a draw of 3.
        DUE.is("23 the first draw from 0", Due.of("n1;l100;").lots(0, 1, 0, 1), 3);
        DUE.is("23 in thought", x.of(0, 4), 33);
        DUE.is("23 rule 6", x.lots(6, 0, 0, 2), -2);
        DUE.is("23 rule -1", x.lots(-1, 1, 0, 0), -2);
        DUE.is("23 n 0", x.lots(0, 0, 0, 2), -4);
        DUE.is("23 n 51", x.lots(0, 51, 0, 2), -6);
        DUE.is("23 what 2", x.lots(0, 1, 0, 2), -2);
        DUE.is("23 what -1", x.lots(0, 50, 0, -1), -2);
        DUE.is("23 -2 counted", x.count(12), 4);
        DUE.is("23 -4 counted", x.count(14), 1);
        DUE.is("23 -6 counted", x.count(16), 1);
        DUE.is("23 without lines", new LabelsOfLines().lots(0, 50, 7, 0), 50);
        DUE.is("23 without lines, totals", new LabelsOfLines().lots(1, 50, 7, 1), 0);
    }
}
