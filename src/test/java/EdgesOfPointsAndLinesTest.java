/** Each boundary case that promises 1 to 11, and the terms that they stand on, name. */
public final class EdgesOfPointsAndLinesTest {
    private static final Due DUE = new Due("EdgesOfPointsAndLinesTest");
    private static final String EIGHT = "n7;l000;l011;l022;l033;l044;l055;l066;l006;";

    public static void main(String[] args) {
        aNewObject();
        letters();
        textsThatCome();
        faultsOfAPlace();
        faultsOfAStatement();
        faultsBringNothing();
        points();
        kindsAndPointsOfALine();
        eightLines();
        drop();
        label();
        turn();
        of();
        taken();
        table();
        weightsWhereBothPointsAreOne();
        DUE.end();
    }

    private static Story story(String told) {
        return new Story(DUE, told);
    }

    private static void aNewObject() {
        story("1 a new object has 4 POINTS, no LINES, letters, changes to undo, LABELS")
            .calls("count(0) = 4; count(1) = 0; count(2) = 0; count(3) = 0; count(4) = 0; written(-1) = 3")
            .written("n4;");
        story("1 a new object has had no REFUSALS")
            .calls("count(11) = 0; count(12) = 0; count(13) = 0; count(14) = 0; count(15) = 0; count(16) = 0");
        story("1 a new object's POINTS are 0 .. 3")
            .calls("sum(-1) = -1; sum(0) = 0; sum(3) = 0; sum(4) = -1");
        story("1 a new object has no LINE 0")
            .calls("of(0, 0) = -1; label(0, 0) = -1; drop() = -3");
        story("1 a new object's LISTS are missing")
            .calls("look(0, 0) = 4000000000000000011; look(1, 0) = 4000000000000000011")
            .calls("look(2, 0) = 4000000000000000011; judge(0) = -11; judge(1) = -11; judge(2) = -11");
        story("1 a new object has no letters, no IMAGE, nothing to undo")
            .calls("text() = -1000; on() = -3; undo() = -3");
        new Story(DUE, "1 another new object").calls("points(7) = 4; letter(0) = 1; list(0, 3) = 1; image() = 0");
        story("1 a new object has nothing of another one").written("n4;").calls("look(0, 0) = 4000000000000000011")
            .calls("count(2) = 0; on() = -3");
    }

    private static void letters() {
        story("2 a letter: 0 and 255 are taken, -1 and 256 are not")
            .calls("letter(-1) = -4; letter(0) = 1; letter(255) = 2; letter(256) = -6; count(2) = 2");
        story("2 a letter: the least and the greatest int")
            .calls("letter(least) = -4; letter(most) = -6; count(2) = 0; count(14) = 1; count(16) = 1");
        story("2 letters: the 72nd is taken, a 73rd is not")
            .letters("n1;".repeat(23) + "n1").calls("count(2) = 71; letter(';') = 72; letter(';') = -6; count(2) = 72")
            .calls("letter(0) = -6; count(16) = 2; text() = 24");
        story("2 of 72 letters: -4 comes ahead of no room")
            .letters("n1;".repeat(24)).calls("letter(-1) = -4; letter(256) = -6; count(14) = 1; count(16) = 1");
        story("2 behind a TEXT there is room again")
            .text("n1;".repeat(24), 24).calls("letter('n') = 1; count(16) = 0");
        story("2 behind a FAULT there is room again")
            .text("n1;".repeat(23) + "n1n", -1071).calls("letter('n') = 1; count(16) = 0");
        story("2 letters stay through other calls")
            .letters("n5").calls("points(2) = 4; line(0, 0, 0) = 0; drop() = 0; image() = 0; on() = 0; letter(';') = 3")
            .calls("text() = 1; count(0) = 5");
    }

    private static void textsThatCome() {
        story("3 n: 1 is the least").text("n1;", 1).calls("count(0) = 1; count(2) = 0");
        story("3 n: 7 is the greatest").text("n7;", 1).calls("count(0) = 7; count(2) = 0");
        story("3 n: no LINES, of as many POINTS too").text("l001;n4;", 2).written("n4;");
        story("3 l: its FIGURE 0, its LABEL 0, where one that went had others")
            .text("l001;f09;v099;n4;l501;", 5).calls("of(0, 0) = 5; of(0, 1) = 0; of(0, 4) = 0");
        story("3 l: KIND 0 and KIND 5").text("n1;l000;l500;", 3).written("n1;l000;l500;");
        story("3 l: the first and the last POINT, in both places").text("n7;l006;l060;l066;", 4)
            .written("n7;l006;l060;l066;");
        story("3 l: eight LINES").text(EIGHT, 9).written(EIGHT);
        story("3 l: LINES come behind those that are").calls("line(1, 0, 3) = 0").text("l201;", 1)
            .written("n4;l103;l201;");
        story("3 f: FIGURE 0 and FIGURE 9").text("n1;l000;l000;f09;f19;f00;", 6).calls("of(0, 1) = 0; of(1, 1) = 9");
        story("3 f alone, of a LINE that was").calls("line(0, 0, 1) = 0").text("f07;", 1).calls("of(0, 1) = 7");
        story("3 v: LABEL 00 and LABEL 99").text("n1;l000;l000;v099;v199;v000;", 6).calls("of(0, 4) = 0; of(1, 4) = 99");
        story("3 v alone, of a LINE that was").calls("line(0, 0, 1) = 0").text("v010;", 1).calls("of(0, 4) = 10");
        story("3 f and v: the eighth LINE").text(EIGHT, 9).text("f71;v702;", 2).calls("of(7, 1) = 1; of(7, 4) = 2");
        story("3 what comes stays, where n doesn't come").calls("points(2) = 4; line(3, 1, 0) = 0; label(0, 5) = 0")
            .text("l110;", 1).written("n2;l310;v005;l110;");
        story("3 72 letters are told").text(EIGHT + "v099;v198;v297;v396;v495;f51;", 15)
            .calls("count(4) = 485; of(5, 1) = 1");
        story("3 the letters are no more: a TEXT has none of the one ahead").text("n2;", 1).text("l001;", 1)
            .calls("count(1) = 1; text() = -1000");
    }

    private static void faultOf(String what, String text, int answer) {
        story("3 FAULT: " + what).calls("points(2) = 4; line(4, 0, 1) = 0; label(0, 7) = 0").text(text, answer)
            .calls("count(2) = 0; count(3) = 1; count(11) = 0; count(12) = 0; count(13) = 0; count(14) = 0")
            .calls("count(15) = 0; count(16) = 0").written("n2;l401;v007;");
    }

    private static void faultsOfAPlace() {
        faultOf("no letters", "", -1000);
        faultOf("';' alone", ";", -1000);
        faultOf("a digit ahead", "1;", -1000);
        faultOf("a great letter", "N1;", -1000);
        faultOf("a letter of no STATEMENT", "x", -1000);
        faultOf("a blank ahead", " n1;", -1000);
        faultOf("n without its digit", "n;", -1001);
        faultOf("n with the sign below '0'", "n/;", -1001);
        faultOf("n with the sign above '9'", "n:;", -1001);
        faultOf("n with two digits", "n11;", -1002);
        faultOf("n: the digit lacks", "n", -1001);
        faultOf("n: ';' lacks", "n1", -1002);
        faultOf("n: ';' lacks ahead of another", "n1n1;", -1002);
        faultOf("two ';'", "n1;;", -1003);
        faultOf("l with a sign for its KIND", "lx00;", -1001);
        faultOf("l with two digits", "l00;", -1003);
        faultOf("l with four digits", "l0000;", -1004);
        faultOf("l: all digits lack", "l", -1001);
        faultOf("l: a digit lacks", "l00", -1003);
        faultOf("l: ';' lacks", "l000", -1004);
        faultOf("f with one digit", "f0;", -1002);
        faultOf("f with three digits", "f000;", -1003);
        faultOf("f: a digit lacks", "f0", -1002);
        faultOf("f: ';' lacks", "f00", -1003);
        faultOf("v with two digits", "v00;", -1003);
        faultOf("v with four digits", "v0000;", -1004);
        faultOf("v: a digit lacks", "v00", -1003);
        faultOf("v: ';' lacks", "v000", -1004);
        faultOf("in the second STATEMENT", "n1;l00x;", -1006);
        faultOf("the second STATEMENT lacks", "n1;l", -1004);
        faultOf("the 72nd letter", "n1;".repeat(23) + "n1x", -1071);
        faultOf("the 72nd letter lacks", "n1;".repeat(23) + "n1", -1071);
        faultOf("of a place, ahead of one of a STATEMENT", "n0;l900;x", -1008);
        faultOf("of what lacks, ahead of one of a STATEMENT", "n0;l900", -1007);
        story("3 FAULT: letter 0").calls("letter(0) = 1; text() = -1000; count(2) = 0");
        story("3 FAULT: letter 255").calls("letter('n') = 1; letter(255) = 2; text() = -1001; count(2) = 0");
    }

    /** There are two POINTS and a LINE. */
    private static void faultsOfAStatement() {
        faultOf("n 0", "n0;", -2000);
        faultOf("n 8", "n8;", -2000);
        faultOf("n 9", "n9;", -2000);
        faultOf("KIND 6", "l601;", -2000);
        faultOf("KIND 9", "l901;", -2000);
        faultOf("no such first POINT", "l021;", -2000);
        faultOf("no such second POINT", "l012;", -2000);
        faultOf("no such POINT behind n", "n1;l001;", -2003);
        faultOf("no such LINE of f", "f10;", -2000);
        faultOf("no such LINE of v", "v100;", -2000);
        faultOf("f of a LINE that comes behind", "f10;l000;", -2000);
        faultOf("v of a LINE that comes behind", "v100;l000;", -2000);
        faultOf("f of a LINE that n took", "n2;f00;", -2003);
        faultOf("v of a LINE that n took", "n2;v000;", -2003);
        faultOf("a POINT that n behind it brings", "l002;n3;", -2000);
        faultOf("a ninth LINE", "l000;l000;l000;l000;l000;l000;l000;l000;", -2035);
        faultOf("the first of two", "l000;n0;n8;", -2005);
        faultOf("the last STATEMENT of 72 letters", "n1;".repeat(23) + "n0;", -2069);
        story("3 a POINT that n ahead of it brings").text("n5;l044;", 2);
        story("3 a LINE that comes ahead of it").text("l000;f00;v000;", 3);
        story("3 a ninth LINE is none behind n").text(EIGHT, 9).text("n1;l000;", 2).calls("count(1) = 1");
        story("3 a ninth LINE alone").text(EIGHT, 9).text("l000;", -2000).written(EIGHT);
    }

    private static void faultsBringNothing() {
        story("3 with a FAULT of a STATEMENT nothing comes of those ahead and behind")
            .calls("line(0, 0, 1) = 0").text("f03;v044;l122;n9;l333;", -2014).written("n4;l001;");
        story("3 with a FAULT of a place nothing comes of those ahead")
            .calls("line(0, 0, 1) = 0").text("f03;v044;l122;n3;x", -1017).written("n4;l001;");
        story("3 n that can be, ahead of a FAULT, takes nothing")
            .calls("line(0, 0, 1) = 0; label(0, 9) = 0").text("n7;n0;", -2003).written("n4;l001;v009;").calls("undo() = 0");
        story("3 with a FAULT the IMAGE stays").calls("image() = 0; points(2) = 4").text("n3;n0;", -2003)
            .calls("on() = 0; count(0) = 4");
    }

    private static void points() {
        story("4 points: 1 and 7 are taken, 0 and 8 are not")
            .calls("points(0) = -4; points(1) = 4; points(7) = 1; points(8) = -6; count(0) = 7");
        story("4 points: the least and the greatest int")
            .calls("points(least) = -4; points(most) = -6; count(0) = 4; count(14) = 1; count(16) = 1");
        story("4 points: LINES go, where there are as many POINTS too")
            .calls("line(0, 3, 3) = 0; points(4) = 4; count(1) = 0; points(4) = 4");
        story("4 points that is refused leaves LINES")
            .calls("line(0, 3, 3) = 0; points(0) = -4; points(8) = -6; count(1) = 1");
        story("4 points: of 1 POINT 0 is the last").calls("points(1) = 4; sum(0) = 0; sum(1) = -1");
        story("4 points: of 7 POINTS 6 is the last").calls("points(7) = 4; sum(6) = 0; sum(7) = -1");
    }

    private static void kindsAndPointsOfALine() {
        story("5 line: KIND 0 and KIND 5 are taken, -1 and 6 are not")
            .calls("line(-1, 0, 0) = -2; line(0, 0, 0) = 0; line(5, 0, 0) = 1; line(6, 0, 0) = -2; count(1) = 2");
        story("5 line: the least and the greatest int as a KIND")
            .calls("line(least, 0, 0) = -2; line(most, 0, 0) = -2; count(12) = 2");
        story("5 line: of 4 POINTS 0 and 3 are taken as the first one, -1 and 4 are not")
            .calls("line(0, -1, 0) = -1; line(0, 0, 1) = 0; line(0, 3, 1) = 1; line(0, 4, 0) = -1; count(1) = 2");
        story("5 line: of 4 POINTS 0 and 3 are taken as the second one, -1 and 4 are not")
            .calls("line(0, 0, -1) = -1; line(0, 1, 0) = 0; line(0, 1, 3) = 1; line(0, 0, 4) = -1; count(1) = 2");
        story("5 line: the least and the greatest int as a POINT")
            .calls("line(0, least, 0) = -1; line(0, most, 0) = -1; line(0, 0, least) = -1; line(0, 0, most) = -1");
        story("5 line: both POINTS wrong are one refusal").calls("line(0, 4, 4) = -1; count(11) = 1");
        story("5 line: of 1 POINT 0 alone is taken")
            .calls("points(1) = 4; line(0, 0, 1) = -1; line(0, 1, 0) = -1; line(0, 0, 0) = 0");
        story("5 line: of 7 POINTS 6 is taken, 7 is not")
            .calls("points(7) = 4; line(0, 6, 7) = -1; line(0, 7, 6) = -1; line(0, 6, 6) = 0");
        story("5 line: the KIND comes ahead of POINTS")
            .calls("line(6, 4, 0) = -2; line(-1, 0, 4) = -2; count(12) = 2; count(11) = 0");
        story("5 line: its FIGURE and LABEL are 0, where one that went had others")
            .calls("line(0, 0, 1) = 0; turn(0, 4, 9) = 0; label(0, 99) = 0; drop() = 0; line(2, 1, 0) = 0")
            .calls("of(0, 0) = 2; of(0, 1) = 0; of(0, 2) = 1; of(0, 3) = 0; of(0, 4) = 0");
    }

    private static void eightLines() {
        story("5 line: the eighth is taken, a ninth is not")
            .text(EIGHT, 9).calls("drop() = 7; line(0, 0, 6) = 7; line(0, 0, 6) = -6; count(1) = 8; count(16) = 1");
        story("5 line: the KIND comes ahead of no room").text(EIGHT, 9).calls("line(6, 0, 0) = -2; count(16) = 0");
        story("5 line: a POINT comes ahead of no room")
            .text(EIGHT, 9).calls("line(0, 7, 0) = -1; line(0, 0, 7) = -1; count(16) = 0");
        story("5 line: behind drop() there is room again")
            .text(EIGHT, 9).calls("line(0, 0, 0) = -6; drop() = 7; line(0, 0, 0) = 7");
    }

    private static void drop() {
        story("6 drop: the last LINE goes, and it alone")
            .text("l001;v005;l112;v106;", 4).calls("drop() = 1").written("n4;l001;v005;");
        story("6 drop: of one LINE none is left, then there is none")
            .calls("line(0, 0, 0) = 0; drop() = 0; drop() = -3; drop() = -3; count(13) = 2; count(1) = 0");
        story("6 drop: of eight LINES").text(EIGHT, 9).calls("drop() = 7; drop() = 6; of(6, 0) = -1; of(5, 0) = 0");
        story("6 drop: POINTS stay").calls("points(7) = 4; line(0, 6, 6) = 0; drop() = 0; count(0) = 7; sum(6) = 0");
    }

    private static void label() {
        story("7 label: 0 and 99 are taken, -1 and 100 are not")
            .calls("line(0, 0, 1) = 0; label(0, 99) = 0; label(0, 100) = -6; label(0, -1) = -4; label(0, 0) = 99")
            .calls("of(0, 4) = 0");
        story("7 label: the least and the greatest int")
            .calls("line(0, 0, 1) = 0; label(0, 5) = 0; label(0, least) = -4; label(0, most) = -6; of(0, 4) = 5");
        story("7 label: of two LINES 0 and 1 are taken, -1 and 2 are not")
            .text("l001;l112;", 2).calls("label(-1, 3) = -1; label(0, 3) = 0; label(1, 4) = 0; label(2, 3) = -1")
            .calls("count(4) = 7; count(11) = 2");
        story("7 label: the eighth LINE is taken, a ninth is not")
            .text(EIGHT, 9).calls("label(7, 9) = 0; label(8, 9) = -1; label(7, 8) = 9");
        story("7 label: without LINES").calls("label(0, 0) = -1; label(least, 0) = -1; label(most, 0) = -1");
        story("7 label: the LINE comes ahead of the LABEL")
            .calls("line(0, 0, 1) = 0; label(1, -1) = -1; label(1, 100) = -1; label(-1, -1) = -1; label(-1, 100) = -1")
            .calls("count(11) = 4; count(14) = 0; count(16) = 0");
    }

    private static void turn() {
        story("8 turn: KIND 0 and KIND 5 are taken, -1 and 6 are not")
            .calls("line(0, 0, 1) = 0; turn(0, 5, 0) = 0; turn(0, 6, 0) = -2; turn(0, -1, 0) = -2; turn(0, 0, 0) = 50");
        story("8 turn: FIGURE 0 and FIGURE 9 are taken, -1 and 10 are not")
            .calls("line(0, 0, 1) = 0; turn(0, 1, 9) = 0; turn(0, 1, 10) = -6; turn(0, 1, -1) = -4; turn(0, 1, 0) = 19")
            .calls("of(0, 1) = 0");
        story("8 turn: the least and the greatest int")
            .calls("line(3, 0, 1) = 0; turn(0, least, 0) = -2; turn(0, most, 0) = -2; turn(0, 0, least) = -4")
            .calls("turn(0, 0, most) = -6; of(0, 0) = 3; of(0, 1) = 0");
        story("8 turn: of two LINES 0 and 1 are taken, -1 and 2 are not")
            .text("l001;l112;", 2).calls("turn(-1, 0, 0) = -1; turn(2, 0, 0) = -1; turn(0, 4, 1) = 0; turn(1, 4, 2) = 10")
            .written("n4;l401;f01;l412;f12;");
        story("8 turn: the eighth LINE is taken, a ninth is not")
            .text(EIGHT, 9).calls("turn(7, 5, 9) = 0; turn(8, 0, 0) = -1; turn(7, 0, 0) = 59");
        story("8 turn: without LINES").calls("turn(0, 0, 0) = -1");
        story("8 turn: the LINE comes ahead of KIND and FIGURE")
            .calls("line(0, 0, 1) = 0; turn(1, 6, 0) = -1; turn(1, 0, -1) = -1; turn(-1, 0, 10) = -1; count(11) = 3");
        story("8 turn: the KIND comes ahead of the FIGURE")
            .calls("line(0, 0, 1) = 0; turn(0, 6, -1) = -2; turn(0, -1, 10) = -2; count(12) = 2; count(14) = 0");
        story("8 turn: LABEL and POINTS stay").text("l012;v034;", 2).calls("turn(0, 4, 9) = 0").written("n4;l412;f09;v034;");
    }

    private static void of() {
        story("9 of: what 0 .. 6 is told, -1 and 7 are not").text("l423;f05;v067;", 3)
            .calls("of(0, -1) = -2; of(0, 0) = 4; of(0, 1) = 5; of(0, 2) = 2; of(0, 3) = 3; of(0, 4) = 67")
            .calls("of(0, 5) = 7; of(0, 6) = 2; of(0, 7) = -2; of(0, least) = -2; of(0, most) = -2; count(12) = 4");
        story("9 of: of two LINES 0 and 1 are told, -1 and 2 are not").text("l123;l231;", 2)
            .calls("of(-1, 0) = -1; of(0, 0) = 1; of(1, 0) = 2; of(2, 0) = -1; of(least, 0) = -1; of(most, 0) = -1");
        story("9 of: the eighth LINE is told, a ninth is not").text(EIGHT, 9).calls("of(7, 3) = 6; of(8, 3) = -1");
        story("9 of: the LINE comes ahead of what")
            .calls("of(0, 7) = -1; of(-1, -1) = -1; count(11) = 2; count(12) = 0");
        story("9 of: FIGURE and LABEL are 0 at first").calls("line(4, 0, 0) = 0; of(0, 1) = 0; of(0, 4) = 0");
        story("9 of: the greatest FIGURE and LABEL").text("l400;f09;v099;", 3)
            .calls("of(0, 1) = 9; of(0, 4) = 99; of(0, 5) = 11; of(0, 6) = 2");
        story("9 of: a FIGURE counts for HEAVY and LIGHT alone").text("n1;l000;l100;l200;l300;f09;f19;f29;f39;", 9)
            .calls("of(0, 5) = 1; of(0, 6) = 1; of(1, 5) = 1; of(1, 6) = 0; of(2, 5) = 2; of(2, 6) = 2")
            .calls("of(3, 5) = 0; of(3, 6) = 1");
        story("9 of: HEAVY with FIGURE 0 is as DOUBLE").calls("line(4, 0, 1) = 0; of(0, 5) = 2; of(0, 6) = 2");
        story("9 of: LIGHT with FIGURES 0, 1, 8, 9").calls("line(5, 0, 1) = 0; of(0, 5) = 1; of(0, 6) = 1")
            .calls("turn(0, 5, 1) = 50; of(0, 5) = 1; of(0, 6) = 0; turn(0, 5, 8) = 51; of(0, 5) = 1; of(0, 6) = 1")
            .calls("turn(0, 5, 9) = 58; of(0, 5) = 1; of(0, 6) = 0");
        story("9 of: what FORTH and BACK are stays, where both POINTS are one").text("l400;f03;", 2)
            .calls("of(0, 5) = 5; of(0, 6) = 2");
    }

    private static void taken() {
        story("10 taken: KIND 0 and KIND 5 are told, -1 and 6 are not").text("l500;", 1)
            .calls("taken(0, -1) = -2; taken(0, 0) = 5; taken(0, 5) = 5; taken(0, 6) = -2; taken(0, least) = -2")
            .calls("taken(0, most) = -2; count(12) = 4");
        story("10 taken: of one LINE 0 is told, -1 and 1 are not")
            .calls("line(0, 0, 0) = 0; taken(-1, 0) = -1; taken(0, 0) = 0; taken(1, 0) = -1; count(11) = 2");
        story("10 taken: the eighth LINE is told, a ninth is not").text(EIGHT, 9).calls("taken(7, 0) = 0; taken(8, 0) = -1");
        story("10 taken: the LINE comes ahead of the KIND")
            .calls("taken(0, 6) = -1; taken(-1, -1) = -1; count(11) = 2; count(12) = 0");
        story("10 taken: PLAIN is under itself alone").text("l000;", 1)
            .calls("taken(0, 0) = 0; taken(0, 1) = -16; taken(0, 2) = -16; taken(0, 3) = -16; taken(0, 4) = -16")
            .calls("taken(0, 5) = -16");
        story("10 taken: ARROW is under PLAIN").text("l100;", 1)
            .calls("taken(0, 0) = 1; taken(0, 1) = 1; taken(0, 2) = -16; taken(0, 3) = -16; taken(0, 4) = -16")
            .calls("taken(0, 5) = -16");
        story("10 taken: DOUBLE is under PLAIN").text("l200;", 1)
            .calls("taken(0, 0) = 2; taken(0, 1) = -16; taken(0, 2) = 2; taken(0, 3) = -16; taken(0, 4) = -16")
            .calls("taken(0, 5) = -16");
        story("10 taken: TURNED is under ARROW, by way of it under PLAIN").text("l300;", 1)
            .calls("taken(0, 0) = 3; taken(0, 1) = 3; taken(0, 2) = -16; taken(0, 3) = 3; taken(0, 4) = -16")
            .calls("taken(0, 5) = -16");
        story("10 taken: HEAVY is under DOUBLE, by way of it under PLAIN").text("l400;", 1)
            .calls("taken(0, 0) = 4; taken(0, 1) = -16; taken(0, 2) = 4; taken(0, 3) = -16; taken(0, 4) = 4")
            .calls("taken(0, 5) = -16");
        story("10 taken: LIGHT is under PLAIN").text("l500;", 1)
            .calls("taken(0, 0) = 5; taken(0, 1) = -16; taken(0, 2) = -16; taken(0, 3) = -16; taken(0, 4) = -16")
            .calls("taken(0, 5) = 5");
        story("10 taken: -16 is not counted").text("l000;", 1).calls("taken(0, 1) = -16; count(11) = 0; count(12) = 0")
            .calls("count(13) = 0; count(14) = 0; count(15) = 0; count(16) = 0");
        story("10 taken: the LINE stays of its KIND").text("l400;", 1).calls("taken(0, 0) = 4; of(0, 0) = 4");
    }

    private static void table() {
        story("11 table: of 4 POINTS 0 and 3 are told, -1 and 4 are not").text("l403;f01;", 2)
            .calls("table(-1, 0) = -1; table(0, 0) = 3; table(1, 0) = 0; table(3, 0) = 2; table(4, 0) = -1")
            .calls("table(least, 0) = -1; table(most, 0) = -1; count(11) = 4");
        story("11 table: of one LINE 0 is told, -1 and 1 are not").text("l403;", 1)
            .calls("table(0, -1) = -1; table(0, 0) = 2; table(0, 1) = -1; table(0, least) = -1; table(0, most) = -1");
        story("11 table: no POINT and no LINE are one refusal").calls("table(4, 0) = -1; count(11) = 1");
        story("11 table: without LINES").calls("table(0, 0) = -1");
        story("11 table: the last POINT of 7, the eighth LINE").text(EIGHT, 9)
            .calls("table(6, 7) = 1; table(0, 7) = 1; table(5, 7) = 0; table(7, 7) = -1; table(6, 8) = -1");
        story("11 table: its LABEL does not count").text("l001;v099;", 2).calls("table(0, 0) = 1");
        story("11 table: of no LINE that went").text("l001;", 1).calls("drop() = 0; table(0, 0) = -1");
    }

    private static void weightsWhereBothPointsAreOne() {
        story("TERMS WEIGHTS of a LINE whose two POINTS are one: FORTH and BACK together")
            .text("n2;l000;l100;l200;l300;l400;l500;", 7)
            .calls("table(0, 0) = 2; table(0, 1) = 1; table(0, 2) = 4; table(0, 3) = 1; table(0, 4) = 4; table(0, 5) = 2");
        story("TERMS WEIGHTS of such LINES with FIGURE 9")
            .text("n2;l400;l500;l300;f09;f19;f29;", 7)
            .calls("table(0, 0) = 13; table(0, 1) = 1; table(0, 2) = 1; table(1, 0) = 0; table(1, 1) = 0");
        story("TERMS what LABELS of such LINES count").text("n2;l000;l100;l411;f29;v003;v105;v202;", 8)
            .calls("sum(0) = 11; sum(1) = 26; total() = 37");
        story("TERMS WEIGHTS at the first POINT, the second one, others")
            .text("n3;l401;f05;l110;l310;l520;f31;", 7)
            .calls("table(0, 0) = 7; table(1, 0) = 2; table(2, 0) = 0; table(0, 1) = 0; table(1, 1) = 1; table(2, 1) = 0")
            .calls("table(0, 2) = 1; table(1, 2) = 0; table(2, 2) = 0; table(0, 3) = 0; table(1, 3) = 0; table(2, 3) = 1");
    }
}
