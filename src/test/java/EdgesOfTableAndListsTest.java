/** Each boundary case that promises 24 to 34, and the terms that they stand on, name. */
public final class EdgesOfTableAndListsTest {
    private static final Due DUE = new Due("EdgesOfTableAndListsTest");
    private static final String EIGHT = "n7;l000;l011;l022;l033;l044;l055;l066;l006;";
    private static final String TWO = "n3;l001;l122;v004;v109;";

    public static void main(String[] args) {
        rankArguments();
        rankTold();
        partsArguments();
        partsTold();
        sidesArguments();
        sidesTold();
        writtenArguments();
        writtenTold();
        list();
        put();
        look();
        lays();
        judge();
        gives();
        givesTold();
        rules();
        rulesTold();
        DUE.end();
    }

    private static Story story(String told) {
        return new Story(DUE, told);
    }

    private static void rankArguments() {
        story("24 rank: what 0 and 1 are told, -1 and 2 are not").text("n2;l001;l001;l001;", 4)
            .calls("rank(-1) = -2; rank(0) = 1; rank(1) = 2; rank(2) = -2; rank(least) = -2; rank(most) = -2")
            .calls("count(12) = 4");
    }

    private static void rankTold() {
        story("24 rank: without LINES 0, LOOSE 0").calls("rank(0) = 0; rank(1) = 0; points(1) = 4; rank(0) = 0; rank(1) = 0");
        story("24 rank: of one POINT 1 at most").text("n1;l000;l100;l400;", 4).calls("rank(0) = 1; rank(1) = 2");
        story("24 rank: of one LINE 1").text("n7;l406;", 2).calls("rank(0) = 1; rank(1) = 0");
        story("24 rank: seven POINTS, eight LINES").text(EIGHT, 9).calls("rank(0) = 7; rank(1) = 1");
        story("24 rank: eight like LINES").text("n2;l001;l001;l001;l001;l001;l001;l001;l001;", 9)
            .calls("rank(0) = 1; rank(1) = 7");
        story("24 rank: a POINT with WEIGHTS 0 alone is a sum of none").text("n3;l101;l102;", 3)
            .calls("rank(0) = 1; rank(1) = 1");
        story("24 rank: a row that is another one times a fraction").text("n2;l401;l401;f01;f11;", 5)
            .calls("rank(0) = 1; rank(1) = 1; turn(1, 4, 2) = 41; rank(0) = 2; rank(1) = 0");
        story("24 rank: a row that is two others together").text("n3;l101;l301;l120;l320;", 5)
            .calls("rank(0) = 3; rank(1) = 1").text("n3;l102;l112;l110;l300;", 5).calls("rank(0) = 2; rank(1) = 2");
        story("24 rank: a ring of four LINES has one less, a ring of three has not")
            .text("n4;l001;l012;l023;l030;", 5).calls("rank(0) = 3; rank(1) = 1")
            .text("n3;l001;l012;l020;", 4).calls("rank(0) = 3; rank(1) = 0");
        story("24 rank: the first POINTS have WEIGHTS 0 alone").text("n3;l122;l112;", 3).calls("rank(0) = 2; rank(1) = 0");
        story("24 rank: each POINT has the LINE that the other has not").text("n2;l111;l100;", 3)
            .calls("rank(0) = 2; rank(1) = 0");
        story("24 rank: POINTS that are no more count nothing").text("n3;l100;l111;l122;", 4).calls("rank(0) = 3")
            .text("n2;l100;l100;l100;", 4).calls("rank(0) = 1; rank(1) = 2");
        story("24 rank: seven POINTS of WEIGHT 4, whose products are 0 in a long").text("n7;l200;l211;l222;l233;l244;l255;l266;", 8)
            .calls("rank(0) = 7; rank(1) = 0");
        story("24 rank: LABELS count nothing").text("n2;l001;v099;", 3).calls("rank(0) = 1; rank(1) = 0");
        story("24 rank: the greatest WEIGHTS").text("n7;l400;l411;l422;l433;l444;l455;l466;l406;", 9)
            .text("f09;f19;f29;f39;f49;f59;f69;f79;", 8).calls("rank(0) = 7; rank(1) = 1");
    }

    private static void partsArguments() {
        story("25 parts: of 4 POINTS 0 and 3 are told, -2 and 4 are not, -1 asks how many").text("l001;", 1)
            .calls("parts(-2) = -1; parts(-1) = 3; parts(0) = 3; parts(3) = 8; parts(4) = -1")
            .calls("parts(least) = -1; parts(most) = -1; count(11) = 4");
        story("25 parts: of 1 POINT").calls("points(1) = 4; parts(-1) = 1; parts(0) = 1; parts(1) = -1");
        story("25 parts: of 7 POINTS").calls("points(7) = 4; parts(-1) = 7; parts(6) = 64; parts(7) = -1");
    }

    private static void partsTold() {
        story("25 parts: without LINES each POINT is one").calls("parts(-1) = 4; parts(0) = 1; parts(1) = 2; parts(2) = 4");
        story("25 parts: by LINES of WEIGHT 0 too").text("n3;l101;l512;f11;", 4)
            .calls("table(1, 0) = 0; table(2, 1) = 0; parts(-1) = 1; parts(2) = 7");
        story("25 parts: a LINE whose two POINTS are one hangs nothing together").text("n2;l000;l011;", 3)
            .calls("parts(-1) = 2; parts(0) = 1; parts(1) = 2");
        story("25 parts: by way of six LINES, whatever their order").text("n7;l056;l001;l034;l021;l054;l032;", 7)
            .calls("parts(-1) = 1; parts(0) = 127; parts(6) = 127; parts(3) = 127; drop() = 5; parts(-1) = 2")
            .calls("parts(0) = 7; parts(6) = 120");
        story("25 parts: from a LINE's second POINT to its first one too").text("n3;l110;l121;", 3)
            .calls("parts(-1) = 1; parts(0) = 7; parts(2) = 7");
        story("25 parts: LABELS count nothing").text("n2;l001;", 2).calls("parts(-1) = 1; label(0, 9) = 0; parts(-1) = 1");
    }

    private static void sidesArguments() {
        story("26 sides: of 4 POINTS 0 and 3 are told, -2 and 4 are not, -1 asks whether").text("l003;", 1)
            .calls("sides(-2) = -1; sides(-1) = 1; sides(0) = 0; sides(3) = 1; sides(4) = -1")
            .calls("sides(least) = -1; sides(most) = -1; count(11) = 4");
        story("26 sides: no such POINT comes ahead of -9").text("l000;", 1)
            .calls("sides(-1) = 0; sides(0) = -9; sides(4) = -1; sides(-2) = -1; count(11) = 2");
        story("26 sides: of 1 POINT").calls("points(1) = 4; sides(-1) = 1; sides(0) = 0; sides(1) = -1");
        story("26 sides: of 7 POINTS").text("n7;l065;", 2).calls("sides(-1) = 1; sides(5) = 0; sides(6) = 1; sides(7) = -1");
    }

    private static void sidesTold() {
        story("26 sides: without LINES each POINT is of SIDE 0").calls("sides(-1) = 1; sides(0) = 0; sides(3) = 0");
        story("26 sides: not, if the two POINTS of a LINE are one").text("n2;l001;l011;", 3)
            .calls("sides(-1) = 0; sides(0) = -9; sides(1) = -9; drop() = 1; sides(-1) = 1; sides(1) = 1");
        story("26 sides: of LINES of WEIGHT 0 too").text("n2;l101;l311;", 3).calls("sides(-1) = 0; drop() = 1; sides(-1) = 1");
        story("26 sides: the least POINT of each PART is of SIDE 0").text("n7;l041;l052;l063;l006;", 5)
            .calls("sides(-1) = 1; sides(0) = 0; sides(6) = 1; sides(3) = 0; sides(1) = 0; sides(4) = 1; sides(2) = 0")
            .calls("sides(5) = 1");
        story("26 sides: the least POINT is a second one").text("n3;l021;l010;", 3)
            .calls("sides(0) = 0; sides(1) = 1; sides(2) = 0");
        story("26 sides: two LINES between two POINTS").text("n2;l001;l110;", 3).calls("sides(-1) = 1; sides(1) = 1");
        story("26 sides: a ring of three").text("n3;l001;l012;l020;", 4).calls("sides(-1) = 0; sides(2) = -9");
        story("26 sides: a ring of four").text("n4;l001;l012;l023;l030;", 5)
            .calls("sides(-1) = 1; sides(0) = 0; sides(1) = 1; sides(2) = 0; sides(3) = 1");
        story("26 sides: a ring of seven").text("n7;l001;l012;l023;l034;l045;l056;l060;", 8)
            .calls("sides(-1) = 0; sides(6) = -9; drop() = 6; sides(-1) = 1; sides(6) = 0; sides(5) = 1");
    }

    private static void writtenArguments() {
        story("27 written: i -1 and 0 are taken, -2 is not, the last is told, one more is -9")
            .calls("written(-2) = -4; written(-1) = 3; written(0) = 'n'; written(2) = 59; written(3) = -9")
            .calls("written(most) = -9; written(least) = -4; count(14) = 2");
    }

    private static void writtenTold() {
        story("27 written: the least").calls("points(1) = 4").written("n1;");
        story("27 written: f, if its FIGURE isn't 0").text("l401;f01;", 2).written("n4;l401;f01;")
            .calls("turn(0, 4, 0) = 41").written("n4;l401;");
        story("27 written: v, if its LABEL isn't 0").text("l401;v001;", 2).written("n4;l401;v001;")
            .calls("label(0, 0) = 1").written("n4;l401;");
        story("27 written: a LABEL has two digits").text("l001;l001;l001;v009;v110;v299;", 6)
            .written("n4;l001;v009;l001;v110;l001;v299;");
        story("27 written: a FIGURE that counts nothing").text("l001;f09;", 2).written("n4;l001;f09;");
        story("27 written: LINE by LINE, f ahead of v").text("n7;l506;l460;v150;f13;v007;f09;", 7)
            .written("n7;l506;f09;v007;l460;f13;v150;");
        story("27 written: of eight LINES").text(EIGHT, 9).written(EIGHT);
        story("27 written: the longest").text(EIGHT, 9).text("f09;f19;f29;f39;f49;f59;f69;f79;", 8)
            .text("v099;v199;v299;v399;v499;v599;v699;v799;", 8)
            .calls("written(-1) = 115; written(114) = 59; written(113) = '9'; written(110) = 'v'; written(111) = '7'")
            .calls("written(115) = -9; written(106) = 'f'; written(101) = 'l'");
        story("27 written: letters that have come are not").letters("l00").written("n4;").calls("count(2) = 3");
    }

    private static void list() {
        story("28 list: LISTS 0 and 2 are taken, -1 and 3 are not")
            .calls("list(-1, 1) = -1; list(0, 1) = 1; list(2, 1) = 1; list(3, 1) = -1; list(least, 1) = -1")
            .calls("list(most, 1) = -1; count(11) = 4; look(0, 0) = 0; look(1, 0) = 4000000000000000011; look(2, 0) = 0");
        story("28 list: n 0 and 40 are taken, -1 and 41 are not")
            .calls("list(0, -1) = -14; list(0, 0) = 1; list(0, 40) = 1; list(0, 41) = -6; look(0, 39) = 0")
            .calls("look(0, 40) = 4000000000000000013; count(16) = 1; count(14) = 0");
        story("28 list: the least and the greatest int")
            .calls("list(0, least) = -14; list(0, most) = -6; look(0, 0) = 4000000000000000011; count(14) = 0");
        story("28 list: the LIST comes ahead of n")
            .calls("list(3, 41) = -1; list(-1, -1) = -1; list(3, -1) = -1; count(11) = 3; count(16) = 0");
        story("28 list: all of it 0, where it was another row, longer or shorter").list(1, 5, 6, 7)
            .calls("list(1, 2) = 1; look(1, 0) = 0; look(1, 1) = 0; look(1, 2) = 4000000000000000013; list(1, 3) = 1")
            .calls("look(1, 0) = 0; look(1, 1) = 0; look(1, 2) = 0");
        story("28 list: the last place of a full one is 0 again").calls("list(1, 40) = 1; put(1, 39, 5) = 1; list(1, 40) = 1")
            .calls("look(1, 39) = 0");
        story("28 list: refused, the row stays").list(1, 5, 6).calls("list(1, -1) = -14; list(1, 41) = -6; look(1, 1) = 6");
        story("28 list: an empty one is not missing").calls("list(1, 0) = 1; look(1, 0) = 4000000000000000013; judge(1) = -9");
        story("28 list: a row that becomes empty").list(1, 5).calls("list(1, 0) = 1; look(1, 0) = 4000000000000000013");
        story("28 list: the other LISTS stay").list(0, 1).list(2, 3).calls("list(1, 1) = 1; look(0, 0) = 1; look(2, 0) = 3");
    }

    private static void put() {
        story("29 put: LISTS 0 and 2 are taken, -1 and 3 are not").list(0, 0).list(2, 0)
            .calls("put(-1, 0, 5) = -1; put(0, 0, 5) = 1; put(2, 0, 6) = 1; put(3, 0, 5) = -1; put(least, 0, 5) = -1")
            .calls("put(most, 0, 5) = -1; count(11) = 4; look(0, 0) = 5; look(2, 0) = 6");
        story("29 put: of 3 places 0 and 2 are taken, -1 and 3 are not").calls("list(1, 3) = 1")
            .calls("put(1, -1, 7) = -13; put(1, 0, 7) = 1; put(1, 2, 8) = 1; put(1, 3, 7) = -13; put(1, least, 7) = -13")
            .calls("put(1, most, 7) = -13; look(1, 0) = 7; look(1, 1) = 0; look(1, 2) = 8");
        story("29 put: of 40 places 39 is taken, 40 is not").calls("list(1, 40) = 1; put(1, 39, 7) = 1; put(1, 40, 7) = -13")
            .calls("look(1, 39) = 7");
        story("29 put: an empty LIST has no place 0").calls("list(1, 0) = 1; put(1, 0, 7) = -13; put(1, -1, 7) = -13");
        story("29 put: a missing LIST").calls("put(1, 0, 7) = -11; look(1, 0) = 4000000000000000011");
        story("29 put: the LIST comes ahead of missing, of a place").calls("put(3, 0, 7) = -1; put(3, -1, 7) = -1; count(11) = 2");
        story("29 put: missing comes ahead of a place").calls("put(1, -1, 7) = -11; put(1, 40, 7) = -11");
        story("29 put: the least and the greatest int").list(1, 0, 0)
            .calls("put(1, 0, least) = 1; put(1, 1, most) = 1; look(1, 0) = least; look(1, 1) = most");
        story("29 put: -11 and -13 are not counted").list(1, 0).calls("put(0, 0, 7) = -11; put(1, 1, 7) = -13; count(11) = 0")
            .calls("count(12) = 0; count(13) = 0; count(14) = 0; count(15) = 0; count(16) = 0");
    }

    private static void look() {
        story("30 look: LISTS 0 and 2 are told, -1 and 3 are not").list(0, 5).list(2, 6)
            .calls("look(-1, 0) = 4000000000000000001; look(0, 0) = 5; look(2, 0) = 6; look(3, 0) = 4000000000000000001")
            .calls("look(least, 0) = 4000000000000000001; look(most, 0) = 4000000000000000001; count(11) = 4");
        story("30 look: of 3 places 0 and 2 are told, -1 and 3 are not").list(1, 5, 6, 7)
            .calls("look(1, -1) = 4000000000000000013; look(1, 0) = 5; look(1, 2) = 7; look(1, 3) = 4000000000000000013")
            .calls("look(1, least) = 4000000000000000013; look(1, most) = 4000000000000000013");
        story("30 look: of 40 places 39 is told, 40 is not").calls("list(0, 40) = 1; put(0, 39, 3) = 1; look(0, 39) = 3")
            .calls("look(0, 40) = 4000000000000000013");
        story("30 look: an empty LIST has no place 0").calls("list(0, 0) = 1; look(0, 0) = 4000000000000000013");
        story("30 look: the LIST comes ahead of missing, missing of a place")
            .calls("look(3, -1) = 4000000000000000001; look(0, -1) = 4000000000000000011; look(0, 40) = 4000000000000000011");
        story("30 look: a number that refusals tell is told as it is").list(0, -1, -11, -13, -9)
            .calls("look(0, 0) = -1; look(0, 1) = -11; look(0, 2) = -13; look(0, 3) = -9; count(11) = 0");
        story("30 look: -11 and -13 are not counted").list(1, 0)
            .calls("look(0, 0) = 4000000000000000011; look(1, 1) = 4000000000000000013; count(11) = 0; count(12) = 0")
            .calls("count(13) = 0; count(14) = 0; count(15) = 0; count(16) = 0");
    }

    private static void lays() {
        story("31 lays: LISTS 0 and 2 are taken, -1 and 3 are not").text("n1;l100;v005;", 3).list(0, 1).list(2, 1)
            .calls("lays(-1, 0) = -1; lays(0, 0) = 1; lays(2, 0) = 1; lays(3, 0) = -1; lays(least, 0) = -1")
            .calls("lays(most, 0) = -1; count(11) = 4; look(0, 0) = 5; look(2, 0) = 5");
        story("31 lays: 3 SUMS in 5 places: 0 and 2 are taken, -1 and 3 are not").text(TWO, 5).list(1, 7, 7, 7, 7, 7)
            .calls("lays(1, -1) = -13; lays(1, 3) = -13; look(1, 3) = 7; look(1, 4) = 7; lays(1, 2) = 3; look(1, 1) = 7")
            .calls("look(1, 2) = 4; look(1, 3) = 4; look(1, 4) = 9; lays(1, 0) = 3; look(1, 0) = 4; look(1, 2) = 9")
            .calls("look(1, 3) = 4; lays(1, 4) = -13; lays(1, 5) = -13");
        story("31 lays: the least and the greatest int").text(TWO, 5).list(1, 7, 7, 7)
            .calls("lays(1, least) = -13; lays(1, most) = -13; look(1, 0) = 7; look(1, 2) = 7");
        story("31 lays: just as many places, one less").text(TWO, 5).list(0, 7, 7, 7).list(1, 7, 7)
            .calls("lays(0, 0) = 3; look(0, 2) = 9; lays(0, 1) = -13; lays(1, 0) = -13; look(1, 0) = 7; look(1, 1) = 7");
        story("31 lays: 7 SUMS in 40 places: 33 is taken, 34 is not").text("n7;l166;v099;", 3).calls("list(2, 40) = 1")
            .calls("put(2, 34, 5) = 1; lays(2, 34) = -13; look(2, 34) = 5; lays(2, 33) = 7; look(2, 34) = 0; look(2, 39) = 99");
        story("31 lays: an empty LIST has no place").calls("points(1) = 4; list(0, 0) = 1; lays(0, 0) = -13");
        story("31 lays: a missing LIST").calls("lays(0, 0) = -11");
        story("31 lays: the LIST comes ahead of missing, missing of a place")
            .calls("lays(3, -1) = -1; lays(0, -1) = -11; lays(0, 40) = -11; count(11) = 1");
        story("31 lays: without LINES SUMS of 0").list(0, 7, 7, 7, 7, 7).calls("lays(0, 1) = 4; look(0, 0) = 7; look(0, 4) = 0");
        story("31 lays: -11 and -13 are not counted").list(1, 0).calls("lays(0, 0) = -11; lays(1, 0) = -13; count(11) = 0")
            .calls("count(12) = 0; count(13) = 0; count(14) = 0; count(15) = 0; count(16) = 0");
    }

    private static void judge() {
        story("32 judge: LISTS 0 and 2 are told, -1 and 3 are not").text(TWO, 5).list(0, 4, 5).list(2, 4, 4)
            .calls("judge(-1) = -1; judge(0) = 1; judge(2) = -9; judge(3) = -1; judge(least) = -1; judge(most) = -1")
            .calls("count(11) = 4");
        story("32 judge: a missing LIST, not counted").calls("judge(0) = -11; count(11) = 0; count(13) = 0");
        story("32 judge: all as they are").text(TWO, 5).list(0, 4, 4, 9).calls("judge(0) = -9");
        story("32 judge: it tells fewer").text(TWO, 5).list(0, 4, 4).list(1, 4).calls("judge(0) = -9; judge(1) = -9");
        story("32 judge: it tells none").text(TWO, 5).calls("list(0, 0) = 1; judge(0) = -9");
        story("32 judge: the first and the last place otherwise").text(TWO, 5).list(0, 5, 4, 8).list(1, 4, 4, 8)
            .calls("judge(0) = 0; judge(1) = 2");
        story("32 judge: a place that isn't there").text(TWO, 5).list(0, 4, 4, 9, 0).list(1, 4, 4, 8, 0)
            .calls("judge(0) = 3; judge(1) = 2");
        story("32 judge: of one POINT, of a full LIST").calls("points(1) = 4; list(0, 40) = 1; judge(0) = 1; list(0, 1) = 1")
            .calls("judge(0) = -9");
        story("32 judge: of seven POINTS").text("n7;l166;v009;", 3).list(0, 0, 0, 0, 0, 0, 0, 9).list(1, 0, 0, 0, 0, 0, 0, 8)
            .list(2, 0, 0, 0, 0, 0, 0, 9, 0).calls("judge(0) = -9; judge(1) = 6; judge(2) = 7");
        story("32 judge: the least and the greatest int").list(0, 0, Integer.MIN_VALUE).list(1, Integer.MAX_VALUE)
            .calls("judge(0) = 1; judge(1) = 0");
    }

    private static void gives() {
        story("33 gives: LISTS 0 and 2 are taken, -1 and 3 are not").text(TWO, 5).list(0, 1, 2).list(2, 3, 5)
            .calls("gives(-1) = -1; gives(0) = 2; count(4) = 3; gives(2) = 2; count(4) = 8; gives(3) = -1")
            .calls("gives(least) = -1; gives(most) = -1; count(11) = 4; count(3) = 2");
        story("33 gives: a missing LIST, not counted").text(TWO, 5).calls("gives(0) = -11; count(11) = 0; count(13) = 0");
        story("33 gives: a missing LIST, without LINES too").calls("gives(0) = -11");
        story("33 gives: two LINES, a LIST of one, of three, of none").text(TWO, 5).list(0, 1).list(1, 1, 2, 3)
            .calls("list(2, 0) = 1; gives(0) = -3; gives(1) = -3; gives(2) = -3; count(13) = 3; count(4) = 13; count(3) = 0");
        story("33 gives: 0 and 99 are taken").text(TWO, 5).list(0, 0, 99).list(1, 99, 0)
            .calls("gives(0) = 2; of(0, 4) = 0; of(1, 4) = 99; gives(1) = 2; of(0, 4) = 99; of(1, 4) = 0");
        story("33 gives: -1 is not, in the first place or in the last one").text(TWO, 5).list(0, -1, 5).list(1, 5, -1)
            .calls("gives(0) = -3; gives(1) = -3; of(0, 4) = 4; of(1, 4) = 9; count(3) = 0; count(14) = 0");
        story("33 gives: 100 is not, in the first place or in the last one").text(TWO, 5).list(0, 100, 5).list(1, 5, 100)
            .calls("gives(0) = -3; gives(1) = -3; of(0, 4) = 4; of(1, 4) = 9; count(3) = 0; count(16) = 0");
        story("33 gives: the least and the greatest int are not").text(TWO, 5).list(0, Integer.MIN_VALUE, 5)
            .list(1, 5, Integer.MAX_VALUE).calls("gives(0) = -3; gives(1) = -3; count(4) = 13");
    }

    private static void givesTold() {
        story("33 gives: none without LINES").calls("list(0, 0) = 1; gives(0) = 0; count(3) = 1; undo() = 0");
        story("33 gives: one without LINES is too many").list(0, 0).calls("gives(0) = -3; count(13) = 1; count(3) = 0");
        story("33 gives: none with a LINE is too few").calls("line(0, 0, 1) = 0; list(0, 0) = 1; gives(0) = -3");
        story("33 gives: eight LINES").text(EIGHT, 9).list(0, 1, 2, 3, 4, 5, 6, 7, 8).list(1, 1, 2, 3, 4, 5, 6, 7, 8, 9)
            .list(2, 1, 2, 3, 4, 5, 6, 7).calls("gives(1) = -3; gives(2) = -3; gives(0) = 8; of(0, 4) = 1; of(7, 4) = 8")
            .calls("count(4) = 36; count(3) = 1");
        story("33 gives: a full LIST is too many").text(EIGHT, 9).calls("list(0, 40) = 1; gives(0) = -3");
        story("33 gives: KINDS and FIGURES and the LIST stay").text("n2;l401;f05;v009;", 4).list(0, 8)
            .calls("gives(0) = 1; look(0, 0) = 8").written("n2;l401;f05;v008;");
        story("33 gives: a place that is no more is not told").text(TWO, 5).list(0, 1, 2, 300).list(0, 5, 6)
            .calls("gives(0) = 2; count(4) = 11");
    }

    private static void rules() {
        story("34 rules: LISTS 0 and 2 are told, -1 and 3 are not").list(0, 1).list(2, 4)
            .calls("rules(-1) = -1; rules(0) = 23; rules(2) = 15; rules(3) = -1; rules(least) = -1; rules(most) = -1")
            .calls("count(11) = 4");
        story("34 rules: a missing LIST, not counted").calls("rules(0) = -11; count(11) = 0; count(13) = 0");
        story("34 rules: 1 and 7 SUMS are taken, 0 and 8 are not")
            .calls("list(0, 0) = 1; rules(0) = -3; list(0, 1) = 1; rules(0) = 31; list(0, 7) = 1; rules(0) = 25")
            .calls("list(0, 8) = 1; rules(0) = -3; list(0, 40) = 1; rules(0) = -3; count(13) = 3");
    }

    private static void rulesTold() {
        story("34 rules: n is as many as it tells: FEW of one is 2 at most").calls("points(7) = 4").list(0, 2).list(1, 3)
            .calls("rules(0) = 31; rules(1) = 7");
        story("34 rules: FEW of seven is 14 at most").calls("points(1) = 4").list(0, 14, 14, 14, 14, 14, 14, 14)
            .list(1, 14, 14, 14, 14, 14, 14, 15).calls("rules(0) = 25; rules(1) = 32");
        story("34 rules: RISING, UNLIKE").list(0, 1, 2, 3, 4, 5, 6, 7).list(1, 7, 6, 5, 4, 3, 2, 1).list(2, 1, 2, 3, 4, 5, 6, 6)
            .calls("rules(0) = 22; rules(1) = 18; rules(2) = 48");
        story("34 rules: MIXED").list(0, 2, 2, 4).list(1, 2, 2).list(2, 2, 4)
            .calls("rules(0) = 56; rules(1) = 25; rules(2) = 30");
        story("34 rules: numbers below 0").list(0, -3).list(1, -2, -4).list(2, -1, -1)
            .calls("rules(0) = 23; rules(1) = 26; rules(2) = 17");
        story("34 rules: the least and the greatest int").list(0, Integer.MIN_VALUE, Integer.MAX_VALUE)
            .list(1, Integer.MAX_VALUE, Integer.MIN_VALUE).list(2, Integer.MIN_VALUE, Integer.MIN_VALUE)
            .calls("rules(0) = 6; rules(1) = 2; rules(2) = 25");
        story("34 rules: of SUMS that were laid").text(TWO, 5).calls("list(0, 3) = 1; lays(0, 0) = 3; rules(0) = 32")
            .calls("rule(5) = 1; rule(4) = 0");
    }
}
