/** Each boundary case that promises 35 to 38, and the terms that they stand on, name. */
public final class EdgesOfImageTest {
    private static final Due DUE = new Due("EdgesOfImageTest");
    private static final String EIGHT = "n7;l000;l011;l022;l033;l044;l055;l066;l006;";

    public static void main(String[] args) {
        undoOfNone();
        eightUndone();
        whatCounts();
        whatIsAsAheadOfIt();
        whatLeavesNone();
        whatLeavesNoneThoughAllStays();
        whatIsRefusedLeavesThem();
        whatElseLeavesThem();
        image();
        on();
        whatStaysWithOn();
        count();
        refusalsCounted();
        refusalsNotCounted();
        the512thCall();
        DUE.end();
    }

    private static Story story(String told) {
        return new Story(DUE, told);
    }

    /** There is one LINE of LABEL 5, and one change of it that can be undone. */
    private static Story changed(String told) {
        return story(told).calls("line(0, 0, 1) = 0; label(0, 5) = 0; count(3) = 1");
    }

    private static void undoOfNone() {
        story("35 undo: there is none").calls("undo() = -3; undo() = -3; count(13) = 2");
        changed("35 undo: there is none behind the last").calls("undo() = 0; undo() = -3; of(0, 4) = 0; count(13) = 1");
        changed("35 undo: what is UNDONE can't be done again").calls("undo() = 0; count(3) = 0; undo() = -3");
    }

    private static void eightUndone() {
        story("35 undo: of eight changes all eight").text("n1;l000;", 2)
            .calls("label(0, 1) = 0; label(0, 2) = 1; label(0, 3) = 2; label(0, 4) = 3; label(0, 5) = 4; label(0, 6) = 5")
            .calls("label(0, 7) = 6; count(3) = 7; label(0, 8) = 7; count(3) = 8")
            .calls("undo() = 7; of(0, 4) = 7; undo() = 6; undo() = 5; undo() = 4; undo() = 3; undo() = 2; undo() = 1")
            .calls("of(0, 4) = 1; undo() = 0; of(0, 4) = 0; undo() = -3");
        story("35 undo: of nine changes the oldest no more").text("n1;l000;", 2)
            .calls("label(0, 1) = 0; label(0, 2) = 1; label(0, 3) = 2; label(0, 4) = 3; label(0, 5) = 4; label(0, 6) = 5")
            .calls("label(0, 7) = 6; label(0, 8) = 7; label(0, 9) = 8; count(3) = 8")
            .calls("undo() = 7; of(0, 4) = 8; undo() = 6; undo() = 5; undo() = 4; undo() = 3; undo() = 2; undo() = 1")
            .calls("of(0, 4) = 2; undo() = 0; of(0, 4) = 1; undo() = -3; of(0, 4) = 1");
        story("35 undo: a change behind undone ones").text("n1;l000;", 2)
            .calls("label(0, 1) = 0; label(0, 2) = 1; label(0, 3) = 2; undo() = 2; undo() = 1; label(0, 9) = 1; count(3) = 2")
            .calls("undo() = 1; of(0, 4) = 1; undo() = 0; of(0, 4) = 0; undo() = -3");
        Story many = story("35 undo: of twenty changes the latest eight").text("n1;l000;", 2);
        for (int v = 1; v <= 20; v++) {
            many.ask(v - 1, "label", 0, v).ask(Math.min(v, 8), "count", 3);
        }
        for (int left = 7; left >= 0; left--) {
            many.ask(left, "undo").ask(12 + left, "of", 0, 4);
        }
        many.calls("undo() = -3; of(0, 4) = 12");
    }

    private static void whatCounts() {
        changed("35 undo: label() that leaves all as it was counts")
            .calls("label(0, 5) = 5; count(3) = 2; undo() = 1; of(0, 4) = 5; undo() = 0; of(0, 4) = 0");
        changed("35 undo: turn() that leaves all as it was counts")
            .calls("turn(0, 0, 0) = 0; count(3) = 2; undo() = 1; of(0, 4) = 5");
        changed("35 undo: gives() that leaves all as it was counts").list(0, 5).calls("gives(0) = 1; count(3) = 2; undo() = 1");
        story("35 undo: gives() without LINES counts").calls("list(0, 0) = 1; gives(0) = 0; count(3) = 1; undo() = 0");
        story("35 undo: gives() of eight LABELS is one").text(EIGHT, 9).list(0, 1, 2, 3, 4, 5, 6, 7, 8)
            .calls("gives(0) = 8; count(3) = 1; undo() = 0; count(4) = 0");
    }

    private static void whatIsAsAheadOfIt() {
        story("35 undo: KIND and FIGURE of turn(), its LABEL").text("l401;f03;v007;", 3)
            .calls("turn(0, 5, 9) = 43; label(0, 8) = 7; undo() = 1; undo() = 0").written("n4;l401;f03;v007;");
        story("35 undo: the latest first, of many LINES").text("l001;l112;v005;v106;", 4).list(0, 7, 8)
            .calls("turn(1, 4, 2) = 10; gives(0) = 2; turn(0, 3, 1) = 0; undo() = 2").written("n4;l001;v007;l412;f12;v108;")
            .calls("undo() = 1").written("n4;l001;v005;l412;f12;v106;").calls("undo() = 0")
            .written("n4;l001;v005;l112;v106;");
        story("35 undo: the eighth LINE").text(EIGHT, 9).calls("turn(7, 4, 9) = 0; label(7, 99) = 0; undo() = 1; of(7, 4) = 0")
            .calls("undo() = 0; of(7, 0) = 0; of(7, 1) = 0");
        changed("35 undo: letters, LISTS, the IMAGE stay").calls("image() = 1; letter('n') = 1; list(0, 1) = 1; label(0, 6) = 5")
            .calls("undo() = 1; undo() = 0; count(2) = 1; look(0, 0) = 0; on() = 1; of(0, 4) = 5");
        changed("35 undo: REFUSALS stay").calls("label(0, 100) = -6; undo() = 0; count(16) = 1");
    }

    private static void whatLeavesNone() {
        changed("35 points() leaves none").calls("points(3) = 4; count(3) = 0; undo() = -3");
        changed("35 line() leaves none").calls("line(0, 0, 1) = 1; count(3) = 0; undo() = -3; of(0, 4) = 5");
        changed("35 drop() leaves none").calls("drop() = 0; count(3) = 0; undo() = -3");
        changed("35 a TEXT of n leaves none").text("n3;", 1).calls("count(3) = 0; undo() = -3");
        changed("35 a TEXT of l leaves none").text("l001;", 1).calls("count(3) = 0; undo() = -3; of(0, 4) = 5");
        changed("35 a TEXT of f alone leaves none").text("f03;", 1).calls("count(3) = 0; undo() = -3; of(0, 4) = 5");
        changed("35 a TEXT of v alone leaves none").text("v003;", 1).calls("count(3) = 0; undo() = -3; of(0, 4) = 3");
        changed("35 on() leaves none").calls("image() = 1; label(0, 6) = 5; on() = 1; count(3) = 0; undo() = -3; of(0, 4) = 5");
        changed("35 behind what leaves none there can be new ones")
            .calls("line(0, 0, 1) = 1; label(1, 4) = 0; count(3) = 1; undo() = 0; of(1, 4) = 0; of(0, 4) = 5; undo() = -3");
        Story eight = story("35 what leaves none leaves none of eight").text("n1;l000;", 2);
        for (int v = 1; v <= 8; v++) {
            eight.ask(v - 1, "label", 0, v);
        }
        eight.calls("line(0, 0, 0) = 1; count(3) = 0; undo() = -3; of(0, 4) = 8");
    }

    private static void whatLeavesNoneThoughAllStays() {
        story("35 points() leaves none, though all stays").calls("list(0, 0) = 1; gives(0) = 0; points(4) = 4; count(3) = 0");
        changed("35 a TEXT of f leaves none, though all stays").text("f00;", 1).calls("count(3) = 0; undo() = -3");
        changed("35 a TEXT of v leaves none, though all stays").text("v005;", 1).calls("count(3) = 0; undo() = -3");
        story("35 a TEXT of n leaves none, though all stays").calls("list(0, 0) = 1; gives(0) = 0; count(3) = 1")
            .text("n4;", 1).calls("count(3) = 0; undo() = -3");
        changed("35 on() leaves none, though all stays").calls("image() = 1; on() = 1; count(3) = 0; undo() = -3; of(0, 4) = 5");
    }

    private static void whatIsRefusedLeavesThem() {
        changed("35 points() that is refused leaves them").calls("points(0) = -4; points(8) = -6; count(3) = 1; undo() = 0");
        changed("35 line() that is refused leaves them")
            .calls("line(6, 0, 0) = -2; line(0, 4, 0) = -1; line(0, 0, 4) = -1; count(3) = 1; undo() = 0; of(0, 4) = 0");
        story("35 a ninth line() leaves them").text(EIGHT, 9).calls("label(0, 5) = 0; line(0, 0, 0) = -6; count(3) = 1; undo() = 0");
        story("35 drop() that is refused leaves them")
            .calls("list(0, 0) = 1; gives(0) = 0; drop() = -3; count(3) = 1; undo() = 0");
        changed("35 a TEXT with a FAULT of a place leaves them").text("n3;x", -1003).calls("count(3) = 1; undo() = 0; of(0, 4) = 0");
        changed("35 a TEXT with a FAULT of a STATEMENT leaves them").text("v003;n0;", -2005)
            .calls("count(3) = 1; of(0, 4) = 5; undo() = 0; of(0, 4) = 0");
        changed("35 a TEXT of no letters leaves them").calls("text() = -1000; count(3) = 1; undo() = 0");
        changed("35 on() that is refused leaves them").calls("on() = -3; count(3) = 1; undo() = 0");
        changed("35 label() that is refused is none").calls("label(1, 0) = -1; label(0, -1) = -4; label(0, 100) = -6; count(3) = 1");
        changed("35 turn() that is refused is none")
            .calls("turn(1, 0, 0) = -1; turn(0, 6, 0) = -2; turn(0, 0, -1) = -4; turn(0, 0, 10) = -6; count(3) = 1");
        changed("35 gives() that is refused is none").list(0, 100)
            .calls("gives(3) = -1; gives(1) = -11; gives(0) = -3; count(3) = 1; undo() = 0; of(0, 4) = 0");
    }

    private static void whatElseLeavesThem() {
        changed("35 image() leaves them").calls("image() = 1; count(3) = 1; undo() = 0; of(0, 4) = 0");
        changed("35 letter() leaves them").calls("letter('n') = 1; count(3) = 1; undo() = 0");
        changed("35 list(), put(), lays() leave them").calls("list(0, 4) = 1; put(0, 0, 3) = 1; lays(0, 0) = 4; count(3) = 1");
        changed("35 what only asks leaves them").calls("ways(0, 1, -1, 0) = 1; magic(0, 0, 0) = 0; orders(-1, 0) = 0; spread() = -9")
            .calls("odds(0, 1, 0) = 1; lots(0, 1, 0, 0) = 0; settled() = 6; rank(0) = 1; count(3) = 1; undo() = 0");
    }

    private static void image() {
        story("36 image: without LINES, of one POINT").calls("points(1) = 4; image() = 0; points(7) = 1; on() = 0; count(0) = 1");
        story("36 image: eight LINES with all that is theirs")
            .text("n7;l516;f07;v098;l065;l165;l265;l365;l465;f53;v501;l001;l166;", 13).calls("image() = 8; points(2) = 7; on() = 8")
            .written("n7;l516;f07;v098;l065;l165;l265;l365;l465;f53;v501;l001;l166;");
        story("36 image: the latest is it").calls("image() = 0; points(2) = 4; line(0, 0, 1) = 0; image() = 1; points(7) = 2")
            .calls("on() = 1; count(0) = 2");
        changed("36 image: what is changed behind it does not come into it")
            .calls("image() = 1; label(0, 9) = 5; turn(0, 4, 9) = 0; line(0, 1, 1) = 1; drop() = 1; drop() = 0; on() = 1")
            .written("n4;l001;v005;");
        story("36 image: taken by a TEXT's FAULT or by on() never").text("n0;", -2000).calls("on() = -3; on() = -3; count(13) = 2");
    }

    private static void on() {
        story("37 on: there is no IMAGE").calls("on() = -3; count(13) = 1; count(0) = 4; count(1) = 0");
        story("37 on: as often as one likes").calls("line(3, 2, 1) = 0; image() = 1; drop() = 0; on() = 1; points(7) = 4; on() = 1")
            .written("n4;l321;");
        story("37 on: LINES that came are no more").text("l001;", 1).calls("image() = 1; line(0, 1, 1) = 1; label(1, 9) = 0")
            .calls("on() = 1; count(1) = 1; of(1, 0) = -1; count(4) = 0; line(2, 0, 0) = 1; of(1, 4) = 0; of(1, 0) = 2");
        story("37 on: what changes behind it does not come into the IMAGE").text("l001;v005;", 2)
            .calls("image() = 1; on() = 1; label(0, 9) = 5; turn(0, 4, 9) = 0; on() = 1; of(0, 4) = 5; of(0, 0) = 0; of(0, 1) = 0");
        story("37 on: behind undo()").text("l001;", 1).calls("label(0, 3) = 0; image() = 1; undo() = 0; of(0, 4) = 0; on() = 1")
            .calls("of(0, 4) = 3; undo() = -3");
    }

    private static void whatStaysWithOn() {
        story("37 on: letters stay").calls("image() = 0; letter('n') = 1; letter('2') = 2; letter(';') = 3; on() = 0; count(2) = 3")
            .calls("text() = 1; count(0) = 2");
        story("37 on: letters that are no more don't come again").letters("n2").calls("image() = 0; text() = -1002; on() = 0")
            .calls("count(2) = 0");
        story("37 on: LISTS stay").list(0, 5).calls("image() = 0; put(0, 0, 6) = 1; list(1, 2) = 1; on() = 0; look(0, 0) = 6")
            .calls("look(1, 1) = 0; look(2, 0) = 4000000000000000011");
        story("37 on: REFUSALS stay").calls("image() = 0; sum(4) = -1; on() = 0; count(11) = 1");
    }

    private static void count() {
        story("38 count: what 0 .. 4 and 11 .. 16 are told, -1, 5, 10 and 17 are -9")
            .calls("count(-1) = -9; count(0) = 4; count(1) = 0; count(2) = 0; count(3) = 0; count(4) = 0; count(5) = -9")
            .calls("count(10) = -9; count(11) = 0; count(16) = 0; count(17) = -9; count(least) = -9; count(most) = -9")
            .calls("count(12) = 0");
        story("38 count: POINTS").calls("points(1) = 4; count(0) = 1; points(7) = 1; count(0) = 7");
        story("38 count: LINES").text(EIGHT, 9).calls("count(1) = 8; drop() = 7; count(1) = 7");
        story("38 count: letters").letters("n1;".repeat(24)).calls("count(2) = 72; text() = 24; count(2) = 0");
        story("38 count: LABELS of all").text(EIGHT, 9).text("v099;v199;v299;v399;v499;v599;v699;v799;", 8)
            .calls("count(4) = 792; drop() = 7; count(4) = 693; points(7) = 7; count(4) = 0");
        story("38 count: LABELS, whatever WEIGHTS are").text("l400;f09;v002;l101;v103;", 5).calls("count(4) = 5; total() = 29");
    }

    private static void refusalsCounted() {
        story("38 REFUSALS -1").calls("sum(4) = -1; table(0, 0) = -1; list(3, 0) = -1; count(11) = 3; count(12) = 0");
        story("38 REFUSALS -2").calls("rule(6) = -2; line(6, 0, 0) = -2; rank(2) = -2; count(12) = 3; count(11) = 0");
        story("38 REFUSALS -3").calls("drop() = -3; undo() = -3; on() = -3; list(0, 0) = 1; rules(0) = -3; count(13) = 4");
        story("38 REFUSALS -4").calls("ranked(-1) = -4; points(0) = -4; written(-2) = -4; count(14) = 3; count(16) = 0");
        story("38 REFUSALS -5, which no call tells").calls("sum(4) = -1; rule(6) = -2; drop() = -3; points(0) = -4; points(8) = -6")
            .calls("count(15) = 0; count(11) = 1; count(12) = 1; count(13) = 1; count(14) = 1; count(16) = 1");
        story("38 REFUSALS -6").calls("points(8) = -6; letter(256) = -6; list(0, 41) = -6; count(16) = 3; count(15) = 0");
        story("38 REFUSALS told as longs").calls("odds(6, 0, 0) = 4000000000000000002; odds(0, -1, 0) = 4000000000000000004")
            .calls("odds(0, 4, 0) = 4000000000000000006; look(3, 0) = 4000000000000000001; count(11) = 1; count(12) = 1")
            .calls("count(14) = 1; count(16) = 1; count(13) = 0");
        story("38 REFUSALS told by difference()").calls("difference(-1, 0) = 1000000004; difference(6, 1) = 1000000006")
            .calls("difference(0, 7) = 1000000006; count(14) = 1; count(16) = 2");
        story("38 REFUSALS: of two that fit the first alone").calls("line(6, 4, 4) = -2; count(12) = 1; count(11) = 0");
    }

    private static void refusalsNotCounted() {
        story("38 -9 is not counted").calls("ranked(4) = -9; written(3) = -9; spread() = -9; count(17) = -9; count(11) = 0")
            .calls("count(12) = 0; count(13) = 0; count(14) = 0; count(15) = 0; count(16) = 0");
        story("38 FAULTS are not counted").text("x", -1000).text("n0;", -2000).text("l009;", -2000)
            .calls("count(11) = 0; count(12) = 0; count(13) = 0; count(14) = 0; count(15) = 0; count(16) = 0");
        story("38 -11, -13, -14, -16 are not counted").calls("line(0, 0, 0) = 0; list(1, 1) = 1; judge(0) = -11; put(1, 1, 0) = -13")
            .calls("list(0, -1) = -14; taken(0, 5) = -16; look(0, 0) = 4000000000000000011; look(1, 1) = 4000000000000000013")
            .calls("count(11) = 0; count(12) = 0; count(13) = 0; count(14) = 0; count(15) = 0; count(16) = 0");
    }

    private static void the512thCall() {
        Asked x = new Asked();
        for (int call = 1; call < 512; call++) {
            DUE.is("38 call " + call + " of 512, drop()", x.ask("drop"), -3);
        }
        DUE.is("38 call 512 of 512, count(13)", x.ask("count", 13), 511);
    }
}
