/** Each boundary case that promises 12 to 23, and the terms that they stand on, name. */
public final class EdgesOfSumsAndRulesTest {
    private static final Due DUE = new Due("EdgesOfSumsAndRulesTest");
    private static final String TWO_ALONE = "n2;l100;l111;";
    private static final String EIGHT_ON_ONE = "n1;l100;l100;l100;l100;l100;l100;l100;l100;";

    public static void main(String[] args) {
        sum();
        total();
        rule();
        rulesOfOnePoint();
        few();
        otherRules();
        ranked();
        waysArguments();
        waysOrderOfRefusals();
        waysTold();
        waysWithoutLines();
        magicArguments();
        magicTold();
        difference();
        settled();
        orders();
        ordersWithoutLines();
        spread();
        oddsArguments();
        oddsTold();
        lotsArguments();
        draws();
        lotsTold();
        DUE.end();
    }

    private static Story story(String told) {
        return new Story(DUE, told);
    }

    private static void sum() {
        story("12 sum: of 1 POINT 0 is told, -1 and 1 are not").text("n1;l100;v007;", 3)
            .calls("sum(-1) = -1; sum(0) = 7; sum(1) = -1; sum(least) = -1; sum(most) = -1; count(11) = 4");
        story("12 sum: of 7 POINTS 0 and 6 are told, -1 and 7 are not").text("n7;l406;f09;v099;", 4)
            .calls("sum(-1) = -1; sum(0) = 1089; sum(6) = 198; sum(5) = 0; sum(7) = -1");
        story("12 sum: the greatest").text("n1;l400;l400;l400;l400;l400;l400;l400;l400;", 9)
            .text("f09;f19;f29;f39;f49;f59;f69;f79;", 8).text("v099;v199;v299;v399;v499;v599;v699;v799;", 8)
            .calls("sum(0) = 10296; total() = 10296");
        story("12 sum: without LINES").calls("sum(0) = 0; sum(3) = 0");
    }

    private static void total() {
        story("13 total: without LINES").calls("total() = 0");
        story("13 total: of the last POINT too, of both POINTS of a LINE").text("n3;l122;l001;v004;v105;", 5)
            .calls("total() = 14");
        story("13 total: of POINTS that were no more").text("n7;l166;v009;n1;", 4).calls("total() = 0");
    }

    private static void rule() {
        story("14 rule: RULES 0 .. 5 are told, -1 and 6 are not")
            .calls("rule(-1) = -2; rule(0) = 1; rule(1) = 0; rule(2) = 0; rule(3) = 1; rule(4) = 1; rule(5) = 0")
            .calls("rule(6) = -2; rule(least) = -2; rule(most) = -2; count(12) = 4");
        story("14 rule: without LINES all SUMS are 0, of 7 POINTS").calls("points(7) = 4; rule(0) = 1; rule(1) = 0")
            .calls("rule(2) = 0; rule(3) = 1; rule(4) = 1; rule(5) = 0");
    }

    private static void rulesOfOnePoint() {
        story("TERMS RULES of one POINT: LIKE, UNLIKE, RISING are so, MIXED isn't, of SUM 0")
            .calls("points(1) = 4; rule(0) = 1; rule(1) = 1; rule(2) = 1; rule(3) = 1; rule(4) = 1; rule(5) = 0");
        story("TERMS RULES of one POINT: of an odd SUM above 2").text("n1;l100;v003;", 3)
            .calls("rule(0) = 1; rule(1) = 1; rule(2) = 1; rule(3) = 0; rule(4) = 0; rule(5) = 0");
        story("TERMS RULES of one POINT: all labels are LIKE, UNLIKE, RISING").text("n1;l000;l100;", 3)
            .calls("ways(0, 3, -1, 0) = 16; ways(1, 3, -1, 0) = 16; ways(2, 3, -1, 0) = 16; ways(5, 3, -1, 0) = 0");
        story("TERMS RULES of two POINTS: MIXED is never so").text("n2;l100;l111;v005;", 4)
            .calls("rule(5) = 0; label(1, 5) = 0; rule(5) = 0; ways(5, 3, -1, 0) = 0");
    }

    private static void few() {
        for (int n = 1; n <= 7; n++) {
            String text = "n" + n + ";l1" + (n - 1) + (n - 1) + ";";
            story("TERMS FEW of " + n + ": twice n is, one more isn't").text(text, 2)
                .ask(0, "label", 0, 2 * n).ask(1, "rule", 4).ask(2L * n, "label", 0, 2 * n + 1).ask(0, "rule", 4);
        }
        story("TERMS FEW: the first POINT's alone is too great").text("n3;l100;l111;v007;v106;", 5).calls("rule(4) = 0");
    }

    private static void otherRules() {
        story("TERMS LIKE: the last POINT's alone is otherwise").text("n3;l001;v002;l122;v102;", 5)
            .calls("rule(0) = 1; label(1, 3) = 2; rule(0) = 0");
        story("TERMS UNLIKE: the first and the last alone are like").text("n4;l100;l111;l122;l133;v001;v203;v301;", 8)
            .calls("rule(1) = 0; rule(5) = 1; label(3, 2) = 1; rule(1) = 1; rule(5) = 0");
        story("TERMS RISING: the first two are like").text("n3;l100;l111;l122;v001;v101;v202;", 7)
            .calls("rule(2) = 0; label(0, 0) = 1; rule(2) = 1");
        story("TERMS RISING: the last two are like").text("n3;l100;l111;l122;v101;v201;", 6)
            .calls("rule(2) = 0; label(2, 2) = 1; rule(2) = 1");
        story("TERMS RISING: falling and UNLIKE").text(TWO_ALONE, 3)
            .calls("label(0, 1) = 0; rule(2) = 0; rule(1) = 1; label(0, 0) = 1; label(1, 1) = 0; rule(2) = 1");
        story("TERMS EVEN: the last POINT's alone is odd").text("n3;l100;l122;v002;v101;", 5)
            .calls("rule(3) = 0; label(1, 2) = 1; rule(3) = 1");
        story("TERMS EVEN: the first POINT's alone is odd").text("n3;l100;v001;", 3).calls("rule(3) = 0");
        story("TERMS MIXED: some like, some not").text("n3;l100;l111;v001;v101;", 5)
            .calls("rule(5) = 1; rule(0) = 0; rule(1) = 0; label(0, 2) = 1; rule(5) = 0; rule(1) = 1");
    }

    private static void ranked() {
        story("15 ranked: of 4 POINTS places 0 and 3 are told, 4 is -9, -1 is not")
            .calls("ranked(-1) = -4; ranked(0) = 0; ranked(3) = 3; ranked(4) = -9; ranked(most) = -9")
            .calls("ranked(least) = -4; count(14) = 2");
        story("15 ranked: of 1 POINT place 0 alone").calls("points(1) = 4; ranked(0) = 0; ranked(1) = -9");
        story("15 ranked: of 7 POINTS places 0 and 6, the greatest first").text("n7;l166;l100;v009;v101;", 5)
            .calls("ranked(0) = 6; ranked(1) = 0; ranked(2) = 1; ranked(6) = 5; ranked(7) = -9");
        story("15 ranked: of like ones the lesser POINT").text("n4;l111;l133;v005;v105;", 5)
            .calls("ranked(0) = 1; ranked(1) = 3; ranked(2) = 0; ranked(3) = 2");
    }

    private static void waysArguments() {
        story("16 ways: RULES 0 and 5 are taken, -1 and 6 are not").text(TWO_ALONE, 3)
            .calls("ways(-1, 1, -1, 0) = -2; ways(0, 1, -1, 0) = 2; ways(5, 1, -1, 0) = 0; ways(6, 1, -1, 0) = -2")
            .calls("ways(least, 1, -1, 0) = -2; ways(most, 1, -1, 0) = -2; count(12) = 4");
        story("16 ways: k 0 and 3 are taken, -1 and 4 are not").text(TWO_ALONE, 3)
            .calls("ways(0, -1, -1, 0) = -4; ways(0, 0, -1, 0) = 1; ways(0, 3, -1, 0) = 4; ways(0, 4, -1, 0) = -6")
            .calls("ways(0, least, -1, 0) = -4; ways(0, most, -1, 0) = -6; count(14) = 2; count(16) = 2");
        story("16 ways: i -1 and 0 are taken, -2 is not, the last is told, one more is -9").text(TWO_ALONE, 3)
            .calls("ways(2, 3, -2, 0) = -4; ways(2, 3, -1, 0) = 6; ways(2, 3, 0, 0) = 0; ways(2, 3, 0, 1) = 1")
            .calls("ways(2, 3, 5, 0) = 2; ways(2, 3, 5, 1) = 3; ways(2, 3, 6, 0) = -9; ways(2, 3, most, 1) = -9")
            .calls("ways(2, 3, least, 0) = -4; count(14) = 2");
        story("16 ways: of two LINES 0 and 1 are told, -1 and 2 are not").text(TWO_ALONE, 3)
            .calls("ways(1, 1, 0, -1) = -1; ways(1, 1, 0, 0) = 0; ways(1, 1, 0, 1) = 1; ways(1, 1, 0, 2) = -1")
            .calls("ways(1, 1, 0, least) = -1; ways(1, 1, 0, most) = -1; count(11) = 4");
        story("16 ways: with i -1 any LINE is taken").text(TWO_ALONE, 3)
            .calls("ways(1, 1, -1, -1) = 2; ways(1, 1, -1, 2) = 2; ways(1, 1, -1, least) = 2; ways(1, 1, -1, most) = 2")
            .calls("count(11) = 0");
    }

    private static void waysOrderOfRefusals() {
        story("16 ways: the RULE comes ahead of all").text(TWO_ALONE, 3)
            .calls("ways(6, -1, 0, 0) = -2; ways(6, 0, -2, 0) = -2; ways(6, 4, 0, 0) = -2; ways(-1, 0, 0, 2) = -2")
            .calls("count(12) = 4; count(11) = 0; count(14) = 0; count(16) = 0");
        story("16 ways: below comes ahead of above, and of the LINE").text(TWO_ALONE, 3)
            .calls("ways(0, 4, -2, 0) = -4; ways(0, -1, 0, 2) = -4; ways(0, 0, -2, 2) = -4; ways(0, -1, -2, 0) = -4")
            .calls("count(14) = 4; count(11) = 0; count(16) = 0");
        story("16 ways: above comes ahead of the LINE").text(TWO_ALONE, 3)
            .calls("ways(0, 4, 0, 2) = -6; ways(0, 4, 0, -1) = -6; ways(0, 4, -1, 2) = -6; count(16) = 3; count(11) = 0");
        story("16 ways: the LINE comes ahead of -9").text(TWO_ALONE, 3).calls("ways(0, 0, 99, 2) = -1; ways(0, 0, 99, 1) = -9");
    }

    private static void waysTold() {
        story("16 ways: the LABEL of LINE 0 goes slowest").text("n3;l100;l111;l122;", 4)
            .calls("ways(5, 1, -1, 0) = 6; ways(5, 1, 0, 0) = 0; ways(5, 1, 0, 1) = 0; ways(5, 1, 0, 2) = 1")
            .calls("ways(5, 1, 1, 0) = 0; ways(5, 1, 1, 1) = 1; ways(5, 1, 1, 2) = 0")
            .calls("ways(5, 1, 5, 0) = 1; ways(5, 1, 5, 1) = 1; ways(5, 1, 5, 2) = 0; ways(5, 1, 6, 0) = -9");
        story("16 ways: k 0 has one way, of LABELS 0").text(TWO_ALONE, 3)
            .calls("ways(0, 0, 0, 1) = 0; ways(0, 0, 1, 1) = -9; ways(1, 0, -1, 0) = 0; ways(1, 0, 0, 0) = -9");
        story("16 ways: in thought, whatever LABELS are").text(TWO_ALONE, 3).text("v099;v150;", 2)
            .calls("ways(1, 1, -1, 0) = 2; ways(1, 1, 0, 1) = 1; of(0, 4) = 99; of(1, 4) = 50");
        story("16 ways: the most, of eight LINES with k 3").text(EIGHT_ON_ONE, 9)
            .calls("ways(0, 3, -1, 0) = 65536; ways(0, 3, 65535, 0) = 3; ways(0, 3, 65535, 7) = 3")
            .calls("ways(0, 3, 65534, 7) = 2; ways(0, 3, 65536, 0) = -9; ways(0, 3, 16384, 0) = 1; ways(0, 3, 16383, 0) = 0");
    }

    private static void waysWithoutLines() {
        for (int k = 0; k <= 3; k++) {
            story("16 ways: without LINES one way, of which all SUMS are 0, k " + k)
                .ask(1, "ways", 0, k, -1, 0).ask(0, "ways", 1, k, -1, 0).ask(0, "ways", 2, k, -1, 0)
                .ask(1, "ways", 3, k, -1, 0).ask(1, "ways", 4, k, -1, 0).ask(0, "ways", 5, k, -1, 0);
        }
        story("16 ways: without LINES, of one POINT").calls("points(1) = 4; ways(0, 3, -1, 0) = 1; ways(1, 3, -1, 0) = 1")
            .calls("ways(2, 3, -1, 0) = 1; ways(3, 3, -1, 0) = 1; ways(4, 3, -1, 0) = 1; ways(5, 3, -1, 0) = 0");
        story("16 ways: without LINES there is no LINE to tell of")
            .calls("ways(0, 0, 0, 0) = -1; ways(0, 0, 1, 0) = -1; ways(1, 0, 0, -1) = -1; count(11) = 3");
    }

    private static void magicArguments() {
        story("17 magic: r 0 and 6 are taken, -1 and 7 are not").text("n1;l100;l100;", 3)
            .calls("magic(-1, -1, 0) = -4; magic(0, -1, 0) = 1; magic(6, -1, 0) = 7; magic(7, -1, 0) = -6")
            .calls("magic(least, -1, 0) = -4; magic(most, -1, 0) = -6; count(14) = 2; count(16) = 2");
        story("17 magic: i -1 and 0 are taken, -2 is not, the last is told, one more is -9").text("n1;l100;l100;", 3)
            .calls("magic(6, -2, 0) = -4; magic(6, 0, 0) = 0; magic(6, 0, 1) = 6; magic(6, 6, 0) = 6; magic(6, 6, 1) = 0")
            .calls("magic(6, 7, 0) = -9; magic(6, most, 0) = -9; magic(6, least, 0) = -4; count(14) = 2");
        story("17 magic: of two LINES 0 and 1 are told, -1 and 2 are not").text("n1;l100;l100;", 3)
            .calls("magic(1, 0, -1) = -1; magic(1, 0, 0) = 0; magic(1, 0, 1) = 1; magic(1, 0, 2) = -1")
            .calls("magic(1, 0, least) = -1; magic(1, 0, most) = -1; count(11) = 4");
        story("17 magic: with i -1 any LINE is taken").text("n1;l100;l100;", 3)
            .calls("magic(1, -1, -1) = 2; magic(1, -1, 2) = 2; magic(1, -1, least) = 2; magic(1, -1, most) = 2");
        story("17 magic: below comes ahead of above, and of the LINE").text("n1;l100;", 2)
            .calls("magic(7, -2, 0) = -4; magic(-1, 0, 1) = -4; magic(0, -2, 1) = -4; magic(-1, -2, 0) = -4")
            .calls("count(14) = 4; count(11) = 0; count(16) = 0");
        story("17 magic: above comes ahead of the LINE").text("n1;l100;", 2)
            .calls("magic(7, 0, 1) = -6; magic(7, 0, -1) = -6; magic(7, -1, 1) = -6; count(16) = 3; count(11) = 0");
        story("17 magic: the LINE comes ahead of -9").text("n1;l100;", 2).calls("magic(0, 99, 1) = -1; magic(0, 99, 0) = -9");
    }

    private static void magicTold() {
        story("17 magic: without LINES one way for r 0, none for others")
            .calls("magic(0, -1, 0) = 1; magic(1, -1, 0) = 0; magic(2, -1, 0) = 0; magic(6, -1, 0) = 0")
            .calls("magic(0, 0, 0) = -1; magic(1, 0, 0) = -1; magic(0, 1, -1) = -1; count(11) = 3");
        story("17 magic: without LINES, of one POINT").calls("points(1) = 4; magic(0, -1, 0) = 1; magic(1, -1, 0) = 0");
        story("17 magic: r 0 has one way, of LABELS 0").text("n2;l001;l401;", 3)
            .calls("magic(0, -1, 0) = 1; magic(0, 0, 0) = 0; magic(0, 0, 1) = 0; magic(0, 1, 0) = -9");
        story("17 magic: LABELS above 3, up to 6").text("n1;l100;", 2)
            .calls("magic(4, 0, 0) = 4; magic(6, 0, 0) = 6; magic(6, -1, 0) = 1");
        story("17 magic: in thought, whatever LABELS are").text("n1;l100;v099;", 3)
            .calls("magic(6, -1, 0) = 1; magic(6, 0, 0) = 6; of(0, 4) = 99");
        story("17 magic: a POINT without LINES leaves r 0 alone").text("n3;l001;", 2)
            .calls("magic(0, -1, 0) = 1; magic(1, -1, 0) = 0; magic(6, -1, 0) = 0");
        story("17 magic: a POINT with WEIGHTS 0 alone leaves r 0 alone").text("n2;l101;", 2)
            .calls("magic(0, -1, 0) = 1; magic(1, -1, 0) = 0; magic(6, -1, 0) = 0; magic(1, 0, 0) = -9");
        story("17 magic: a LINE whose two POINTS are one counts twice").text("n1;l000;", 2)
            .calls("magic(1, -1, 0) = 0; magic(2, 0, 0) = 1; magic(5, -1, 0) = 0; magic(6, 0, 0) = 3");
        story("17 magic: a WEIGHT above r is left out").text("n1;l400;f03;l100;", 4)
            .calls("magic(6, -1, 0) = 1; magic(6, 0, 0) = 0; magic(6, 0, 1) = 6; magic(6, 1, 0) = -9");
        story("17 magic: a POINT that is a second one alone").text("n2;l001;", 2)
            .calls("magic(0, -1, 0) = 1; magic(1, 0, 0) = 1; magic(6, 0, 0) = 6; magic(6, -1, 0) = 1");
        story("17 magic: the SUM of one POINT leaves ways that the SUM of the other does not").text("n2;l001;l100;", 3)
            .calls("magic(2, -1, 0) = 1; magic(2, 0, 0) = 2; magic(2, 0, 1) = 0; magic(2, 1, 0) = -9")
            .text("n2;l001;l111;", 3).calls("magic(2, -1, 0) = 1; magic(2, 0, 0) = 2; magic(2, 0, 1) = 0");
        story("17 magic: a later LINE is right at a POINT that is a second one of each").text("n2;l301;l001;l301;", 4)
            .calls("magic(2, -1, 0) = 1; magic(2, 0, 0) = 0; magic(2, 0, 1) = 2; magic(2, 0, 2) = 0");
        story("17 magic: eight LINES").text("n2;l100;l100;l100;l100;l111;l111;l111;l111;", 9)
            .calls("magic(6, -1, 0) = 7056; magic(6, 7055, 0) = 6; magic(6, 7055, 4) = 6; magic(6, 7055, 7) = 0")
            .calls("magic(6, 7056, 0) = -9; magic(6, 0, 0) = 0; magic(6, 0, 3) = 6; magic(6, 0, 7) = 6");
    }

    private static void difference() {
        story("18 difference: j 0 and 6 are taken, -1 and 7 are not").text("n1;l100;l100;", 3)
            .calls("difference(-1, 0) = 1000000004; difference(0, 0) = 1; difference(6, 0) = 0")
            .calls("difference(7, 0) = 1000000006; count(14) = 1; count(16) = 1");
        story("18 difference: r 0 and 6 are taken, -1 and 7 are not").text("n1;l100;l100;", 3)
            .calls("difference(0, -1) = 1000000004; difference(0, 6) = 7; difference(0, 7) = 1000000006");
        story("18 difference: together 6 is taken, 7 is not").text("n1;l100;l100;", 3)
            .calls("difference(1, 5) = 1; difference(5, 1) = 0; difference(3, 3) = 0; difference(2, 4) = 0")
            .calls("difference(1, 6) = 1000000006; difference(6, 1) = 1000000006; difference(4, 3) = 1000000006");
        story("18 difference: below comes ahead of above").text("n1;l100;", 2)
            .calls("difference(-1, 8) = 1000000004; difference(8, -1) = 1000000004; difference(-1, -1) = 1000000004")
            .calls("count(14) = 3; count(16) = 0");
        story("18 difference: the least and the greatest int, together beyond ints")
            .calls("difference(least, 0) = 1000000004; difference(0, least) = 1000000004; difference(most, 0) = 1000000006")
            .calls("difference(0, most) = 1000000006; difference(most, most) = 1000000006; difference(1, most) = 1000000006")
            .calls("difference(most, 1) = 1000000006; difference(most, least) = 1000000004; difference(least, most) = 1000000004");
        story("18 difference: without LINES the ROW is 1, 0, 0, ..").calls("difference(0, 0) = 1; difference(0, 1) = 0")
            .calls("difference(1, 0) = -1; difference(1, 1) = 0; difference(2, 0) = 1; difference(3, 0) = -1")
            .calls("difference(5, 0) = -1; difference(5, 1) = 0; difference(6, 0) = 1");
        story("18 difference: the ROW 1, 0, 1, 0, 1, 0, 1").text("n1;l000;", 2)
            .calls("difference(1, 0) = -1; difference(1, 1) = 1; difference(1, 5) = 1; difference(2, 0) = 2")
            .calls("difference(2, 1) = -2; difference(6, 0) = 32; difference(5, 0) = -16; difference(5, 1) = 16");
    }

    private static void settled() {
        story("19 settled: 0, where all of the ROW are alike").text("n1;l100;", 2).calls("settled() = 0");
        story("19 settled: 1").text("n1;l100;l100;", 3).calls("settled() = 1");
        story("19 settled: 5, where two DIFFERENCES are left").text("n1;l100;l100;l100;l100;l100;l100;", 7)
            .calls("settled() = 5; difference(5, 0) = 1; difference(5, 1) = 1");
        story("19 settled: 6 at most, where just one is left").text("n1;l000;", 2).calls("settled() = 6");
        story("19 settled: 6, without LINES").calls("settled() = 6");
        story("19 settled: 6, of eight LINES").text(EIGHT_ON_ONE, 9)
            .calls("settled() = 6; difference(5, 0) = 21; difference(5, 1) = 28");
        story("19 settled: of one, which just r 6 makes unlike").text("n1;l100;l400;f13;", 4)
            .calls("difference(0, 0) = 1; difference(0, 6) = 1; settled() = 0; turn(1, 4, 2) = 43; settled() = 6");
    }

    private static void orders() {
        story("20 orders: i -1 and 0 are taken, -2 is not, the last is told, one more is -9").text("n3;l100;l111;l122;", 4)
            .calls("orders(-2, 0) = -4; orders(-1, 0) = 6; orders(0, 0) = 1; orders(0, 1) = 2; orders(0, 2) = 3")
            .calls("orders(1, 0) = 1; orders(1, 1) = 3; orders(5, 0) = 3; orders(5, 2) = 1; orders(6, 0) = -9")
            .calls("orders(most, 0) = -9; orders(least, 0) = -4; count(14) = 2");
        story("20 orders: of two LINES 0 and 1 are told, -1 and 2 are not").text(TWO_ALONE, 3)
            .calls("orders(0, -1) = -1; orders(0, 0) = 1; orders(0, 1) = 2; orders(0, 2) = -1; orders(0, least) = -1")
            .calls("orders(0, most) = -1; count(11) = 4");
        story("20 orders: with i -1 any LINE is taken").text(TWO_ALONE, 3)
            .calls("orders(-1, -1) = 2; orders(-1, 2) = 2; orders(-1, least) = 2; orders(-1, most) = 2; count(11) = 0");
        story("20 orders: below comes ahead of the LINE").text(TWO_ALONE, 3)
            .calls("orders(-2, 2) = -4; orders(-2, -1) = -4; count(14) = 2; count(11) = 0");
        story("20 orders: the LINE comes ahead of -9").text(TWO_ALONE, 3).calls("orders(99, 2) = -1; orders(99, 1) = -9");
        story("20 orders: those by which two SUMS are like are left out").text("n2;l100;l111;l100;", 4)
            .calls("orders(-1, 0) = 4; orders(0, 0) = 1; orders(0, 1) = 2; orders(0, 2) = 3")
            .calls("orders(1, 0) = 2; orders(1, 1) = 1; orders(3, 0) = 3; orders(3, 1) = 2; orders(4, 0) = -9");
        story("20 orders: none").text("n2;l001;", 2).calls("orders(-1, 0) = 0; orders(0, 0) = -9");
        story("20 orders: in thought, whatever LABELS are").text(TWO_ALONE, 3).text("v099;v199;", 2)
            .calls("orders(-1, 0) = 2; orders(1, 0) = 2; of(0, 4) = 99; of(1, 4) = 99");
        story("20 orders: of one LINE").text("n1;l100;", 2).calls("orders(-1, 0) = 1; orders(0, 0) = 1; orders(1, 0) = -9");
        story("20 orders: of eight LINES").text(EIGHT_ON_ONE, 9)
            .calls("orders(-1, 0) = 40320; orders(0, 7) = 8; orders(40319, 0) = 8; orders(40319, 7) = 1")
            .calls("orders(40320, 0) = -9; orders(5039, 0) = 1; orders(5040, 0) = 2; orders(5040, 1) = 1");
    }

    private static void ordersWithoutLines() {
        story("20 orders: without LINES one order, of which all SUMS are 0: UNLIKE of one POINT")
            .calls("points(1) = 4; orders(-1, 0) = 1; orders(0, 0) = -1; orders(1, 0) = -1; count(11) = 2");
        story("20 orders: without LINES, of two POINTS none")
            .calls("points(2) = 4; orders(-1, 0) = 0; orders(0, 0) = -1; orders(0, -1) = -1");
        story("20 orders: without LINES, of 7 POINTS none").calls("points(7) = 4; orders(-1, 0) = 0");
    }

    private static void spread() {
        story("21 spread: without LINES 0 of one POINT").calls("points(1) = 4; spread() = 0");
        story("21 spread: without LINES -9 of two POINTS").calls("points(2) = 4; spread() = -9");
        story("21 spread: -9, there is no ORDER").text("n2;l001;", 2).calls("spread() = -9; orders(-1, 0) = 0");
        story("21 spread: of one POINT 0").text(EIGHT_ON_ONE, 9).calls("spread() = 0");
        story("21 spread: 1 is the least of two POINTS").text(TWO_ALONE, 3).calls("spread() = 1");
        story("21 spread: the least is that of the first ORDER").text("n2;l400;f09;l111;", 4).calls("spread() = 11");
        story("21 spread: the least is that of the last ORDER").text("n2;l111;l400;f19;", 4).calls("spread() = 11");
        story("21 spread: the least is that of an ORDER between").text("n2;l200;l100;l211;", 4).calls("spread() = 1");
        story("21 spread: of seven POINTS, the greatest less the least")
            .text("n7;l100;l111;l122;l133;l144;l155;l166;", 8).calls("spread() = 6; orders(-1, 0) = 5040");
    }

    private static void oddsArguments() {
        story("22 odds: RULES 0 and 5 are taken, -1 and 6 are not").text(TWO_ALONE, 3)
            .calls("odds(-1, 1, 0) = 4000000000000000002; odds(0, 1, 0) = 1; odds(5, 1, 0) = 0")
            .calls("odds(6, 1, 0) = 4000000000000000002; odds(least, 1, 0) = 4000000000000000002")
            .calls("odds(most, 1, 0) = 4000000000000000002; count(12) = 4");
        story("22 odds: k 0 and 3 are taken, -1 and 4 are not").text(TWO_ALONE, 3)
            .calls("odds(0, -1, 1) = 4000000000000000004; odds(0, 0, 1) = 1; odds(0, 3, 1) = 4")
            .calls("odds(0, 4, 1) = 4000000000000000006; odds(0, least, 1) = 4000000000000000004")
            .calls("odds(0, most, 1) = 4000000000000000006; count(14) = 2; count(16) = 2");
        story("22 odds: parts 0 and 1 are told, -1 and 2 are not").text(TWO_ALONE, 3)
            .calls("odds(1, 3, -1) = 4000000000000000002; odds(1, 3, 0) = 3; odds(1, 3, 1) = 4")
            .calls("odds(1, 3, 2) = 4000000000000000002; odds(1, 3, least) = 4000000000000000002")
            .calls("odds(1, 3, most) = 4000000000000000002; count(12) = 4");
        story("22 odds: the RULE comes ahead of k").calls("odds(6, -1, 0) = 4000000000000000002")
            .calls("odds(6, 4, 0) = 4000000000000000002; odds(-1, 4, 2) = 4000000000000000002")
            .calls("count(12) = 3; count(14) = 0; count(16) = 0");
        story("22 odds: k comes ahead of the part").calls("odds(0, -1, 2) = 4000000000000000004")
            .calls("odds(0, 4, 2) = 4000000000000000006; odds(0, 4, -1) = 4000000000000000006; count(12) = 0");
        story("22 odds: the RULE and the part wrong are one refusal")
            .calls("odds(6, 0, 2) = 4000000000000000002; count(12) = 1");
    }

    private static void oddsTold() {
        story("22 odds: never is 0 by 1").text(TWO_ALONE, 3).calls("odds(5, 3, 0) = 0; odds(5, 3, 1) = 1");
        story("22 odds: always is 1 by 1").text(EIGHT_ON_ONE, 9).calls("odds(0, 3, 0) = 1; odds(0, 3, 1) = 1");
        story("22 odds: k 0 is always or never").text(TWO_ALONE, 3)
            .calls("odds(0, 0, 0) = 1; odds(0, 0, 1) = 1; odds(1, 0, 0) = 0; odds(1, 0, 1) = 1");
        story("22 odds: without LINES").calls("odds(0, 3, 0) = 1; odds(0, 3, 1) = 1; odds(1, 3, 0) = 0; odds(1, 3, 1) = 1");
        story("22 odds: least terms").text(TWO_ALONE, 3).calls("odds(2, 3, 0) = 3; odds(2, 3, 1) = 8");
        story("22 odds: the greatest below the line").text(EIGHT_ON_ONE, 9).calls("odds(4, 3, 0) = 45; odds(4, 3, 1) = 65536");
        story("22 odds: in thought, whatever LABELS are").text(TWO_ALONE, 3).text("v099;", 1)
            .calls("odds(0, 3, 0) = 1; odds(0, 3, 1) = 4; of(0, 4) = 99");
    }

    private static void lotsArguments() {
        story("23 lots: RULES 0 and 5 are taken, -1 and 6 are not").text(TWO_ALONE, 3)
            .calls("lots(-1, 1, 0, 0) = -2; lots(0, 1, 0, 0) = 0; lots(5, 1, 0, 0) = 0; lots(6, 1, 0, 0) = -2")
            .calls("lots(least, 1, 0, 0) = -2; lots(most, 1, 0, 0) = -2; count(12) = 4");
        story("23 lots: n 1 and 50 are taken, 0 and 51 are not")
            .calls("lots(0, 0, 0, 0) = -4; lots(0, 1, 0, 0) = 1; lots(0, 50, 0, 0) = 50; lots(0, 51, 0, 0) = -6")
            .calls("lots(0, -1, 0, 0) = -4; lots(0, least, 0, 0) = -4; lots(0, most, 0, 0) = -6; count(14) = 3")
            .calls("count(16) = 2");
        story("23 lots: what 0 and 1 are told, -1 and 2 are not")
            .calls("lots(0, 9, 0, -1) = -2; lots(0, 9, 0, 0) = 9; lots(0, 9, 0, 1) = 0; lots(0, 9, 0, 2) = -2")
            .calls("lots(0, 9, 0, least) = -2; lots(0, 9, 0, most) = -2; count(12) = 4");
        story("23 lots: any seed is taken").calls("lots(0, 1, least, 0) = 1; lots(0, 1, most, 0) = 1; lots(0, 1, -1, 0) = 1");
        story("23 lots: the RULE comes ahead of n")
            .calls("lots(6, 0, 0, 0) = -2; lots(6, 51, 0, 0) = -2; lots(-1, 0, 0, 2) = -2; count(12) = 3")
            .calls("count(14) = 0; count(16) = 0");
        story("23 lots: the RULE is looked at for TOTALS too").calls("lots(6, 1, 0, 1) = -2");
        story("23 lots: n comes ahead of what")
            .calls("lots(0, 0, 0, 2) = -4; lots(0, 51, 0, 2) = -6; lots(0, 51, 0, -1) = -6; count(12) = 0");
        story("23 lots: the RULE and what wrong are one refusal").calls("lots(6, 1, 0, 2) = -2; count(12) = 1");
    }

    /** Of one LINE of WEIGHT 1 TOTALS of 1 time are the first DRAW; each is worked out by hand. */
    private static void draws() {
        story("TERMS DRAW: from 0 the int is 1013904223, 3960563 of 256").text("n1;l100;", 2).calls("lots(0, 1, 0, 1) = 3");
        story("TERMS DRAW: from 1 it is 1015568748, 3967065 of 256").text("n1;l100;", 2).calls("lots(0, 1, 1, 1) = 5");
        story("TERMS DRAW: from 12345 it wraps around to 87628868, 342300 of 256").text("n1;l100;", 2)
            .calls("lots(0, 1, 12345, 1) = 0");
        story("TERMS DRAW: from 1000 it is below 0, without its sign's bit 530945575, 2074006 of 256")
            .text("n1;l100;", 2).calls("lots(0, 1, 1000, 1) = 6");
        story("TERMS DRAW: from -1 it is 1012239698, 3954061 of 256").text("n1;l100;", 2).calls("lots(0, 1, -1, 1) = 1");
        story("TERMS DRAW: from the greatest int, without its sign's bit the same").text("n1;l100;", 2)
            .calls("lots(0, 1, most, 1) = 1");
        story("TERMS DRAW: from the least int, without its sign's bit as from 0").text("n1;l100;", 2)
            .calls("lots(0, 1, least, 1) = 3");
        story("TERMS DRAW: from 0 the next ints are 1196435762, 3519870697, 2868466484, 1649599747 less a sign's bit")
            .text("n1;l100;", 2).calls("lots(0, 2, 0, 1) = 10; lots(0, 3, 0, 1) = 16; lots(0, 4, 0, 1) = 25; lots(0, 5, 0, 1) = 34");
    }

    /** From 0 the first draws are 3, 7, 6, 9, 9. */
    private static void lotsTold() {
        story("23 lots: LINES have their DRAWS by numbers").text(TWO_ALONE, 3)
            .calls("lots(2, 1, 0, 0) = 1; lots(2, 2, 0, 0) = 2; lots(0, 2, 0, 0) = 0; lots(2, 2, 0, 1) = 25")
            .text("n2;l111;l100;", 3).calls("lots(2, 1, 0, 0) = 0; lots(2, 2, 0, 0) = 0; lots(1, 2, 0, 0) = 2");
        story("23 lots: how often of all times").text("n1;l100;", 2)
            .calls("lots(3, 5, 0, 0) = 1; lots(3, 2, 0, 0) = 0; lots(4, 5, 0, 0) = 0; lots(1, 50, 0, 0) = 50; lots(5, 50, 0, 0) = 0");
        story("23 lots: TOTALS whatever the RULE is").text("n1;l100;", 2).calls("lots(5, 5, 0, 1) = 34; lots(4, 5, 0, 1) = 34");
        story("23 lots: WEIGHTS count in TOTALS").text("n2;l401;f09;", 3).calls("lots(0, 1, 0, 1) = 39; lots(0, 2, 0, 1) = 130");
        story("23 lots: without LINES all SUMS are 0 each time")
            .calls("lots(0, 50, 7, 0) = 50; lots(1, 50, 7, 0) = 0; lots(3, 50, 7, 0) = 50; lots(0, 50, 7, 1) = 0");
        story("23 lots: in thought, whatever LABELS are").text("n1;l100;v099;", 3)
            .calls("lots(0, 1, 0, 1) = 3; of(0, 4) = 99; lots(0, 1, 0, 1) = 3");
    }
}
