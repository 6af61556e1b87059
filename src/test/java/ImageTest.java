/** Promises 35 to 38: changes undone, the image, what is counted. */
public final class ImageTest {
    private static final Due DUE = new Due("ImageTest");

    public static void main(String[] args) {
        undo();
        nineChanges();
        whatLeavesNone();
        whatLeavesThem();
        image();
        count();
        DUE.end();
    }

    private static void undo() {
        LabelsOfLines x = Due.of("n2;l001;l110;v105;");
        DUE.is("35 there is none", x.undo(), -3);
        DUE.is("35 -3 counted", x.count(13), 1);
        x.label(0, 9);
        x.turn(1, 4, 3);
        Due.fill(x, 0, 77, 88);
        x.gives(0);
        x.label(0, 77);
        DUE.is("35 four changes", x.count(3), 4);
        DUE.is("35 one that changed nothing", x.undo(), 3);
        DUE.is("35 all as given", Due.same(Due.written(x), "n2;l001;v077;l410;f13;v188;"), 1);
        DUE.is("35 what was given", x.undo(), 2);
        DUE.is("35 labels as ahead of it", Due.same(Due.written(x), "n2;l001;v009;l410;f13;v105;"), 1);
        DUE.is("35 the turn", x.undo(), 1);
        DUE.is("35 kind and figure as ahead of it", Due.same(Due.written(x), "n2;l001;v009;l110;v105;"), 1);
        DUE.is("35 the label", x.undo(), 0);
        DUE.is("35 all as at first", Due.same(Due.written(x), "n2;l001;l110;v105;"), 1);
        DUE.is("35 no more", x.undo(), -3);
        DUE.is("35 not done again", x.count(3), 0);
        x.label(0, 1);
        x.undo();
        x.label(0, 2);
        x.label(0, 3);
        DUE.is("35 a change behind an undone one", x.undo(), 1);
        DUE.is("35 its label", x.of(0, 4), 2);
    }

    private static void nineChanges() {
        LabelsOfLines x = Due.of("n1;l000;");
        for (int v = 1; v <= 20; v++) {
            x.label(0, v);
            DUE.is("35 changes " + v, x.count(3), Math.min(v, 8));
        }
        for (int left = 7; left >= 0; left--) {
            DUE.is("35 undo, left " + left, x.undo(), left);
            DUE.is("35 label, left " + left, x.of(0, 4), 12 + left);
        }
        DUE.is("35 older ones no more", x.undo(), -3);
        DUE.is("35 the label stays", x.of(0, 4), 12);
    }

    private static void whatLeavesNone() {
        LabelsOfLines x = Due.of("n2;l001;");
        x.image();
        x.label(0, 5);
        x.points(2);
        DUE.is("35 points leaves none", x.count(3), 0);
        x.line(0, 0, 1);
        x.label(0, 5);
        x.line(0, 0, 1);
        DUE.is("35 line leaves none", x.count(3), 0);
        x.label(0, 5);
        x.drop();
        DUE.is("35 drop leaves none", x.count(3), 0);
        x.label(0, 5);
        Due.tell(x, "f01;");
        DUE.is("35 a text of f leaves none", x.count(3), 0);
        x.label(0, 5);
        Due.tell(x, "v005;");
        DUE.is("35 a text of v leaves none", x.count(3), 0);
        x.label(0, 5);
        x.on();
        DUE.is("35 on leaves none", x.count(3), 0);
        x.list(0, 0);
        x.points(1);
        x.gives(0);
        x.points(1);
        DUE.is("35 also if all stays", x.count(3), 0);
        DUE.is("35 none to undo", x.undo(), -3);
    }

    private static void whatLeavesThem() {
        LabelsOfLines x = Due.of("n2;l001;");
        x.label(0, 5);
        x.turn(0, 2, 0);
        x.points(0);
        x.points(8);
        x.line(6, 0, 0);
        x.line(0, 2, 0);
        x.label(0, 100);
        x.turn(0, 0, 10);
        x.on();
        Due.tell(x, "n8;");
        Due.tell(x, "n1");
        x.list(0, 5);
        x.gives(0);
        x.ways(0, 1, 0, 0);
        x.magic(2, 0, 0);
        x.orders(0, 0);
        x.lots(0, 1, 1, 0);
        x.image();
        DUE.is("35 refused ones leave them", x.count(3), 2);
        DUE.is("35 undo", x.undo(), 1);
        DUE.is("35 the kind", x.of(0, 0), 0);
        DUE.is("35 undo again", x.undo(), 0);
        DUE.is("35 the label", x.of(0, 4), 0);
        LabelsOfLines full = Due.of("n1;l000;l000;l000;l000;l000;l000;l000;l000;");
        full.label(0, 1);
        full.line(0, 0, 0);
        DUE.is("35 a ninth line leaves them", full.count(3), 1);
        LabelsOfLines bare = new LabelsOfLines();
        bare.list(0, 0);
        bare.gives(0);
        bare.drop();
        DUE.is("35 no line to drop leaves them", bare.count(3), 1);
    }

    private static void image() {
        LabelsOfLines x = Due.of("n3;l512;f07;v098;l300;");
        DUE.is("37 there is no image", x.on(), -3);
        DUE.is("37 -3 counted", x.count(13), 1);
        DUE.is("36 image()", x.image(), 2);
        x.label(0, 3);
        x.turn(1, 4, 4);
        x.drop();
        x.points(6);
        x.line(2, 5, 5);
        x.letter('n');
        Due.fill(x, 2, 6);
        DUE.is("37 on()", x.on(), 2);
        DUE.is("37 as then", Due.same(Due.written(x), "n3;l512;f07;v098;l300;"), 1);
        DUE.is("37 letters stay", x.count(2), 1);
        DUE.is("37 lists stay", x.look(2, 0), 6);
        DUE.is("37 refusals stay", x.count(13), 1);
        x.label(0, 1);
        x.points(1);
        DUE.is("37 on() again", x.on(), 2);
        DUE.is("37 as then again", Due.same(Due.written(x), "n3;l512;f07;v098;l300;"), 1);
        x.points(2);
        DUE.is("36 another image()", x.image(), 0);
        x.points(5);
        DUE.is("37 on() from it", x.on(), 0);
        DUE.is("37 its points", x.count(0), 2);
    }

    private static void count() {
        LabelsOfLines x = Due.of("n5;l001;v007;l122;v199;l333;");
        x.letter('a');
        x.letter('b');
        x.label(2, 1);
        DUE.is("38 points", x.count(0), 5);
        DUE.is("38 lines", x.count(1), 3);
        DUE.is("38 letters", x.count(2), 2);
        DUE.is("38 what can be undone", x.count(3), 1);
        DUE.is("38 labels of all", x.count(4), 107);
        x.drop();
        DUE.is("38 labels of those that are", x.count(4), 106);
        LabelsOfLines full = Due.of("n1;l000;l000;l000;l000;l000;l000;l000;l000;v701;v002;");
        DUE.is("38 labels of eight", full.count(4), 3);
        int[] others = {-1, 5, 6, 9, 10, 17, 18, Integer.MIN_VALUE, Integer.MAX_VALUE};
        for (int what : others) {
            DUE.is("38 count(" + what + ")", x.count(what), -9);
        }
        int[] refusals = {0, 0, 0, 0, 0, 0};
        x.sum(5);
        x.of(0, 9);
        x.of(0, 9);
        x.undo();
        x.undo();
        x.undo();
        for (int i = 0; i < 4; i++) {
            x.ranked(-1);
        }
        for (int i = 0; i < 5; i++) {
            x.points(8);
        }
        refusals[0] = 1;
        refusals[1] = 2;
        refusals[2] = 3;
        refusals[3] = 4;
        refusals[5] = 5;
        for (int i = 0; i < 6; i++) {
            DUE.is("38 refusals " + (-1 - i), x.count(11 + i), refusals[i]);
        }
        x.taken(0, 5);
        x.put(0, 0, 0);
        x.list(0, -1);
        x.list(0, 1);
        x.put(0, 1, 0);
        x.look(0, 1);
        for (int i = 0; i < 6; i++) {
            DUE.is("38 the others are not counted " + (-1 - i), x.count(11 + i), refusals[i]);
        }
    }
}
