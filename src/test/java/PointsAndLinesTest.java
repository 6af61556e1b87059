/** Promises 1 to 11: a new object, letters, texts, points, lines, their labels, kinds, weights. */
public final class PointsAndLinesTest {
    private static final Due DUE = new Due("PointsAndLinesTest");

    public static void main(String[] args) {
        aNewObject();
        letters();
        textsThatCome();
        faultsOfTheFirstKind();
        faultsOfTheSecondKind();
        points();
        lines();
        drop();
        label();
        turn();
        of();
        taken();
        table();
        DUE.end();
    }

    private static void aNewObject() {
        LabelsOfLines x = new LabelsOfLines();
        int[] nothing = {1, 2, 3, 4, 11, 12, 13, 14, 15, 16};
        DUE.is("1 count(0)", x.count(0), 4);
        for (int what : nothing) {
            DUE.is("1 count(" + what + ")", x.count(what), 0);
        }
        DUE.is("1 written", Due.same(Due.written(x), "n4;"), 1);
    }

    private static void letters() {
        LabelsOfLines x = new LabelsOfLines();
        DUE.is("2 letter(-1)", x.letter(-1), -4);
        DUE.is("2 letter(256)", x.letter(256), -6);
        DUE.is("2 letter(least)", x.letter(Integer.MIN_VALUE), -4);
        DUE.is("2 letter(most)", x.letter(Integer.MAX_VALUE), -6);
        DUE.is("2 none came", x.count(2), 0);
        DUE.is("2 letter(0)", x.letter(0), 1);
        DUE.is("2 letter(255)", x.letter(255), 2);
        for (int i = 3; i <= 72; i++) {
            DUE.is("2 letter " + i, x.letter('n'), i);
        }
        DUE.is("2 a 73rd", x.letter('n'), -6);
        DUE.is("2 a 73rd below", x.letter(-1), -4);
        DUE.is("2 72 there are", x.count(2), 72);
        DUE.is("2 -4 counted", x.count(14), 3);
        DUE.is("2 -6 counted", x.count(16), 3);
    }

    private static void textsThatCome() {
        LabelsOfLines x = new LabelsOfLines();
        DUE.is("3 n7;", Due.tell(x, "n7;"), 1);
        DUE.is("3 n7; points", x.count(0), 7);
        DUE.is("3 the letters are no more", x.count(2), 0);
        DUE.is("3 two lines", Due.tell(x, "l506;l266;"), 2);
        DUE.is("3 more of them", Due.tell(x, "f07;v199;v005;"), 3);
        DUE.is("3 all", Due.same(Due.written(x), "n7;l506;f07;v005;l266;v199;"), 1);
        DUE.is("3 figure 0, label 0", Due.tell(x, "f00;v100;"), 2);
        DUE.is("3 all but these", Due.same(Due.written(x), "n7;l506;v005;l266;"), 1);
        DUE.is("3 n takes the lines", Due.tell(x, "n1;l000;n2;"), 3);
        DUE.is("3 no lines", x.count(1), 0);
        DUE.is("3 two points", x.count(0), 2);
        DUE.is("3 of itself alone", Due.tell(x, "n1;l000;l000;l000;l000;l000;l000;l000;l000;v799;f79;n1;l100;v001;"),
            14);
        DUE.is("3 its line", Due.same(Due.written(x), "n1;l100;v001;"), 1);
        LabelsOfLines full = new LabelsOfLines();
        DUE.is("3 72 letters", Due.tell(full, "n7;l000;l000;l000;l000;v010;v020;v030;v040;v001;v002;v003;v004;v005;v06;"),
            -1071);
        DUE.is("3 72 letters without fault", Due.tell(full, "n7;n7;n7;n7;n7;n7;n7;n7;n7;n7;n7;n7;n7;n7;n7;n7;n7;n7;n7;n7;n7;n7;n7;n7;"),
            24);
    }

    private static void faultsOfTheFirstKind() {
        String[] texts = {"", "n", "n1", ";", "n;", "n1;;", "n1;x", "N1;", "n11;", "n/;", "n:;", "l",
            "l00", "l0000", "l000", "l00;", "l0a0;", "f0;", "f000", "v00;", "v000", "v0000", "n1;l000;f",
            "n9;l999;q", " n1;", "n1;v", "x"};
        int[] places = {0, 1, 2, 0, 1, 3, 3, 0, 2, 1, 1, 1, 3, 4, 4, 3, 2, 2, 3, 3, 4, 4, 9, 8, 0, 4, 0};
        LabelsOfLines x = Due.of("n2;l001;f03;v045;");
        for (int i = 0; i < texts.length; i++) {
            DUE.is("3 text " + texts[i], Due.tell(x, texts[i]), -1000 - places[i]);
            DUE.is("3 letters after " + texts[i], x.count(2), 0);
        }
        DUE.is("3 nothing came", Due.same(Due.written(x), "n2;l001;f03;v045;"), 1);
        for (int i = 0; i < 72; i++) {
            x.letter("n1;".charAt(i % 3));
        }
        x.letter('n');
        DUE.is("3 full", x.text(), 24);
        for (int i = 0; i < 71; i++) {
            x.letter("n1;".charAt(i % 3));
        }
        DUE.is("3 the 72nd lacks", x.text(), -1071);
        x.letter(0);
        DUE.is("3 letter 0", x.text(), -1000);
        x.letter('n');
        x.letter(255);
        DUE.is("3 letter 255", x.text(), -1001);
        for (int number = 11; number <= 15; number++) {
            DUE.is("3 not counted " + number, x.count(number), 0);
        }
        DUE.is("3 the 73rd alone is counted", x.count(16), 1);
    }

    private static void faultsOfTheSecondKind() {
        LabelsOfLines x = Due.of("n2;l001;f03;v045;");
        String[] texts = {"n0;", "n8;", "n9;", "l600;", "l900;", "l002;", "l020;", "f10;", "v100;", "n3;l002;n2;l002;",
            "v001;v100;", "n2;v000;", "n2;f00;", "l000;v100;f19;v200;", "n1;l000;l010;", "n7;l066;l067;",
            "l000;l000;l000;l000;l000;l000;l000;l000;", "n2;l000;n0;n0;"};
        int[] places = {0, 0, 0, 0, 0, 0, 0, 0, 0, 11, 5, 3, 3, 14, 8, 8, 35, 8};
        for (int i = 0; i < texts.length; i++) {
            DUE.is("3 text " + texts[i], Due.tell(x, texts[i]), -2000 - places[i]);
            DUE.is("3 letters after " + texts[i], x.count(2), 0);
            DUE.is("3 nothing came of " + texts[i], Due.same(Due.written(x), "n2;l001;f03;v045;"), 1);
        }
        DUE.is("3 kind 1 is seen first", Due.tell(x, "n0;n0"), -1005);
        for (int number = 11; number <= 16; number++) {
            DUE.is("3 not counted " + number, x.count(number), 0);
        }
        DUE.is("3 seven more lines", Due.tell(x, "l000;l000;l000;l000;l000;l000;l000;"), 7);
        DUE.is("3 a ninth", Due.tell(x, "l000;"), -2000);
        DUE.is("3 eight lines", x.count(1), 8);
    }

    private static void points() {
        LabelsOfLines x = Due.of("n2;l001;");
        DUE.is("4 points(0)", x.points(0), -4);
        DUE.is("4 points(8)", x.points(8), -6);
        DUE.is("4 points(least)", x.points(Integer.MIN_VALUE), -4);
        DUE.is("4 points(most)", x.points(Integer.MAX_VALUE), -6);
        DUE.is("4 refused: lines stay", x.count(1), 1);
        DUE.is("4 points(1)", x.points(1), 2);
        DUE.is("4 no lines", x.count(1), 0);
        DUE.is("4 one point", x.count(0), 1);
        DUE.is("4 points(7)", x.points(7), 1);
        DUE.is("4 points(7) again", x.points(7), 7);
        DUE.is("4 -4 counted", x.count(14), 2);
        DUE.is("4 -6 counted", x.count(16), 2);
    }

    private static void lines() {
        LabelsOfLines x = new LabelsOfLines();
        DUE.is("5 kind -1", x.line(-1, 9, 9), -2);
        DUE.is("5 kind 6", x.line(6, 0, 0), -2);
        DUE.is("5 point -1", x.line(0, -1, 0), -1);
        DUE.is("5 point 4", x.line(0, 4, 0), -1);
        DUE.is("5 other -1", x.line(0, 0, -1), -1);
        DUE.is("5 other 4", x.line(0, 0, 4), -1);
        DUE.is("5 none came", x.count(1), 0);
        for (int i = 0; i < 8; i++) {
            DUE.is("5 line " + i, x.line(i % 6, i % 4, 3), i);
        }
        DUE.is("5 a ninth", x.line(0, 0, 0), -6);
        DUE.is("5 a ninth of no kind", x.line(6, 0, 0), -2);
        DUE.is("5 a ninth of no point", x.line(0, 0, 4), -1);
        DUE.is("5 what they are", Due.same(Due.written(x), "n4;l003;l113;l223;l333;l403;l513;l023;l133;"), 1);
        DUE.is("5 -1 counted", x.count(11), 5);
        DUE.is("5 -2 counted", x.count(12), 3);
        DUE.is("5 -6 counted", x.count(16), 1);
        x.turn(7, 4, 9);
        x.label(7, 99);
        x.drop();
        x.line(0, 1, 2);
        DUE.is("5 a new one's figure", x.of(7, 1), 0);
        DUE.is("5 a new one's label", x.of(7, 4), 0);
    }

    private static void drop() {
        LabelsOfLines x = Due.of("n2;l001;l110;v005;");
        DUE.is("6 drop()", x.drop(), 1);
        DUE.is("6 the last one goes", Due.same(Due.written(x), "n2;l001;v005;"), 1);
        DUE.is("6 drop() again", x.drop(), 0);
        DUE.is("6 there is none", x.drop(), -3);
        DUE.is("6 -3 counted", x.count(13), 1);
        DUE.is("6 no lines", x.count(1), 0);
    }

    private static void label() {
        LabelsOfLines x = Due.of("n2;l001;l110;");
        DUE.is("7 label(1, 99)", x.label(1, 99), 0);
        DUE.is("7 label(1, 0)", x.label(1, 0), 99);
        DUE.is("7 label(0, 7)", x.label(0, 7), 0);
        DUE.is("7 no line", x.label(2, -1), -1);
        DUE.is("7 line -1", x.label(-1, 100), -1);
        DUE.is("7 below", x.label(0, -1), -4);
        DUE.is("7 above", x.label(0, 100), -6);
        DUE.is("7 as it was", x.of(0, 4), 7);
        DUE.is("7 the other", x.of(1, 4), 0);
        DUE.is("7 -1 counted", x.count(11), 2);
        DUE.is("7 -4 counted", x.count(14), 1);
        DUE.is("7 -6 counted", x.count(16), 1);
    }

    private static void turn() {
        LabelsOfLines x = Due.of("n2;l101;f04;v012;");
        DUE.is("8 turn(0, 5, 9)", x.turn(0, 5, 9), 14);
        DUE.is("8 turn(0, 0, 0)", x.turn(0, 0, 0), 59);
        DUE.is("8 turn(0, 3, 2)", x.turn(0, 3, 2), 0);
        DUE.is("8 no line", x.turn(1, 6, -1), -1);
        DUE.is("8 line -1", x.turn(-1, 0, 0), -1);
        DUE.is("8 no kind", x.turn(0, 6, -1), -2);
        DUE.is("8 kind -1", x.turn(0, -1, 10), -2);
        DUE.is("8 below", x.turn(0, 0, -1), -4);
        DUE.is("8 above", x.turn(0, 0, 10), -6);
        DUE.is("8 as it was", Due.same(Due.written(x), "n2;l301;f02;v012;"), 1);
        DUE.is("8 -1 counted", x.count(11), 2);
        DUE.is("8 -2 counted", x.count(12), 2);
        DUE.is("8 -4 counted", x.count(14), 1);
        DUE.is("8 -6 counted", x.count(16), 1);
    }

    private static void of() {
        LabelsOfLines x = Due.of("n7;l465;f03;v098;");
        int[] told = {4, 3, 6, 5, 98, 5, 2};
        for (int what = 0; what < told.length; what++) {
            DUE.is("9 of(0, " + what + ")", x.of(0, what), told[what]);
        }
        DUE.is("9 what 7", x.of(0, 7), -2);
        DUE.is("9 what -1", x.of(0, -1), -2);
        DUE.is("9 no line", x.of(1, 7), -1);
        DUE.is("9 line -1", x.of(-1, 0), -1);
        DUE.is("9 -1 counted", x.count(11), 2);
        DUE.is("9 -2 counted", x.count(12), 2);
        int[] forth = {1, 1, 2, 0, 2, 1};
        int[] back = {1, 0, 2, 1, 2, 1};
        for (int kind = 0; kind < 6; kind++) {
            for (int figure = 0; figure < 10; figure++) {
                x.turn(0, kind, figure);
                int forthHere = kind == 4 ? 2 + figure : forth[kind];
                int backHere = kind == 5 && figure % 2 == 1 ? 0 : back[kind];
                DUE.is("9 forth of kind " + kind + " with " + figure, x.of(0, 5), forthHere);
                DUE.is("9 back of kind " + kind + " with " + figure, x.of(0, 6), backHere);
            }
        }
    }

    private static void taken() {
        LabelsOfLines x = Due.of("n1;l000;l100;l200;l300;l400;l500;");
        int[] under = {0b000001, 0b000011, 0b000101, 0b001011, 0b010101, 0b100001};
        for (int line = 0; line < 6; line++) {
            for (int kind = 0; kind < 6; kind++) {
                boolean can = (under[line] >> kind & 1) != 0;
                DUE.is("10 taken(" + line + ", " + kind + ")", x.taken(line, kind), can ? line : -16);
            }
        }
        DUE.is("10 no line", x.taken(6, 6), -1);
        DUE.is("10 line -1", x.taken(-1, 0), -1);
        DUE.is("10 kind 6", x.taken(0, 6), -2);
        DUE.is("10 kind -1", x.taken(0, -1), -2);
        DUE.is("10 -1 counted", x.count(11), 2);
        DUE.is("10 -2 counted", x.count(12), 2);
        DUE.is("10 -6 not", x.count(16), 0);
    }

    private static void table() {
        LabelsOfLines x = Due.of("n3;l401;f05;l211;l110;l322;v099;");
        int[][] weights = {{7, 0, 0, 0}, {2, 4, 1, 0}, {0, 0, 0, 1}};
        for (int point = 0; point < 3; point++) {
            for (int line = 0; line < 4; line++) {
                DUE.is("11 table(" + point + ", " + line + ")", x.table(point, line), weights[point][line]);
            }
        }
        x.turn(3, 4, 9);
        DUE.is("11 heavy at one point", x.table(2, 3), 13);
        x.turn(3, 5, 9);
        DUE.is("11 light at one point", x.table(2, 3), 1);
        DUE.is("11 no point", x.table(3, 0), -1);
        DUE.is("11 point -1", x.table(-1, 0), -1);
        DUE.is("11 no line", x.table(0, 4), -1);
        DUE.is("11 line -1", x.table(0, -1), -1);
        DUE.is("11 -1 counted", x.count(11), 4);
    }
}
