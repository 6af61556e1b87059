/** Promises 24 to 27: rank, parts, sides, what is written. */
public final class TableTest {
    private static final Due DUE = new Due("TableTest");

    public static void main(String[] args) {
        rank();
        parts();
        sides();
        written();
        DUE.end();
    }

    private static void rankIs(String text, int rank, int loose) {
        LabelsOfLines x = Due.of(text);
        DUE.is("24 rank of " + text, x.rank(0), rank);
        DUE.is("24 loose of " + text, x.rank(1), loose);
    }

    private static void rank() {
        rankIs("n4;", 0, 0);
        rankIs("n1;l000;", 1, 0);
        rankIs("n1;l000;l100;", 1, 1);
        rankIs("n3;l001;l012;l020;", 3, 0);
        // With two sides the rows of one side together are those of the other together.
        rankIs("n4;l001;l012;l023;l030;", 3, 1);
        rankIs("n2;l101;l301;", 2, 0);
        rankIs("n2;l001;l201;", 1, 1);
        // (2, 2) and (4, 2): not one of them times a fraction.
        rankIs("n2;l201;l401;f12;", 2, 0);
        // (5, 2) and (2, 5): rank 2; (3, 2) twice: rank 1.
        rankIs("n2;l401;f03;l410;f13;", 2, 0);
        rankIs("n2;l401;f01;l401;f11;", 1, 1);
        rankIs("n7;l400;l411;l422;l433;l444;l455;l466;l401;f09;f19;f29;f39;f49;f59;f69;", 7, 1);
        rankIs("n7;l001;l012;l023;l034;l045;l056;", 6, 0);
        rankIs("n3;l020;l121;l112;", 3, 0);
        rankIs("n7;l001;l001;l001;l001;l001;l001;l001;l001;", 1, 7);
        // The first row is all 0, the others are (1, 1) and (0, 1).
        rankIs("n3;l111;l012;", 2, 0);
        rankIs("n4;l133;l023;l012;l001;", 4, 0);
        LabelsOfLines x = Due.of("n3;l001;v099;");
        x.turn(0, 2, 9);
        DUE.is("24 labels don't matter", x.rank(0), 1);
        DUE.is("24 what 2", x.rank(2), -2);
        DUE.is("24 what -1", x.rank(-1), -2);
        DUE.is("24 -2 counted", x.count(12), 2);
    }

    private static void parts() {
        LabelsOfLines x = Due.of("n7;l053;l136;l011;l302;");
        DUE.is("25 how many", x.parts(-1), 4);
        int[] due = {0b0000101, 0b0000010, 0b0000101, 0b1101000, 0b0010000, 0b1101000, 0b1101000};
        for (int point = 0; point < 7; point++) {
            DUE.is("25 parts(" + point + ")", x.parts(point), due[point]);
        }
        DUE.is("25 point 7", x.parts(7), -1);
        DUE.is("25 point -2", x.parts(-2), -1);
        DUE.is("25 -1 counted", x.count(11), 2);
        LabelsOfLines bare = new LabelsOfLines();
        DUE.is("25 without lines", bare.parts(-1), 4);
        DUE.is("25 a point alone", bare.parts(3), 8);
        LabelsOfLines path = Due.of("n7;l056;l045;l034;l023;l012;l001;");
        DUE.is("25 a path", path.parts(-1), 1);
        DUE.is("25 of its end", path.parts(6), 127);
        DUE.is("25 of its other end", path.parts(0), 127);
        LabelsOfLines light = Due.of("n2;l501;f09;");
        DUE.is("25 of weight 0 too", light.parts(-1), 1);
    }

    private static void sides() {
        LabelsOfLines x = Due.of("n7;l053;l136;l310;l042;");
        DUE.is("26 there are two", x.sides(-1), 1);
        int[] due = {0, 1, 0, 0, 1, 1, 1};
        for (int point = 0; point < 7; point++) {
            DUE.is("26 sides(" + point + ")", x.sides(point), due[point]);
        }
        DUE.is("26 point 7", x.sides(7), -1);
        DUE.is("26 point -2", x.sides(-2), -1);
        DUE.is("26 -1 counted", x.count(11), 2);
        x.line(1, 5, 6);
        DUE.is("26 a ring of three", x.sides(-1), 0);
        DUE.is("26 no side", x.sides(3), -9);
        DUE.is("26 no side of another part", x.sides(0), -9);
        DUE.is("26 no such point ahead of it", x.sides(7), -1);
        LabelsOfLines loop = Due.of("n2;l300;");
        DUE.is("26 one point", loop.sides(-1), 0);
        LabelsOfLines ring = Due.of("n5;l001;l012;l023;l034;l040;");
        DUE.is("26 a ring of five", ring.sides(-1), 0);
        LabelsOfLines even = Due.of("n6;l003;l031;l014;l042;l025;l050;l024;");
        DUE.is("26 a ring of six", even.sides(-1), 1);
        int[] sidesOfEven = {0, 0, 0, 1, 1, 1};
        for (int point = 0; point < 6; point++) {
            DUE.is("26 side in the ring of " + point, even.sides(point), sidesOfEven[point]);
        }
        DUE.is("26 without lines", new LabelsOfLines().sides(-1), 1);
        DUE.is("26 side of a point alone", new LabelsOfLines().sides(3), 0);
    }

    private static void written() {
        LabelsOfLines x = new LabelsOfLines();
        DUE.is("27 how many", x.written(-1), 3);
        DUE.is("27 n", x.written(0), 'n');
        DUE.is("27 4", x.written(1), '4');
        DUE.is("27 ;", x.written(2), ';');
        DUE.is("27 no more", x.written(3), -9);
        DUE.is("27 most", x.written(Integer.MAX_VALUE), -9);
        DUE.is("27 -2", x.written(-2), -4);
        DUE.is("27 -4 counted", x.count(14), 1);
        x.points(7);
        for (int line = 0; line < 8; line++) {
            x.line(4, 6, 5);
            x.turn(line, 4, 9);
            x.label(line, 90 + line);
        }
        DUE.is("27 the longest", x.written(-1), 3 + 8 * 14);
        StringBuilder due = new StringBuilder("n7;");
        for (int line = 0; line < 8; line++) {
            due.append("l465;f").append(line).append("9;v").append(line).append(90 + line).append(';');
        }
        DUE.is("27 its letters", Due.same(Due.written(x), due.toString()), 1);
        DUE.is("27 behind the longest", x.written(3 + 8 * 14), -9);
        x.label(0, 5);
        x.turn(0, 0, 0);
        DUE.is("27 a label of one digit", x.written(3 + 5), 'v');
        DUE.is("27 its first digit", x.written(3 + 7), '0');
        DUE.is("27 its second digit", x.written(3 + 8), '5');
        DUE.is("27 not kept as letters", x.count(2), 0);
    }
}
