/** Promises 18 to 20 at their boundaries: images, and counts from their least to their most. */
public final class BoundariesImagesTest {
    /** Node 0 an input, 1 its register over the clocks, 2 behind that; both clocks have an edge at each tick. */
    private static final Run ROW = new Run().tell("i0;r1 0;r1 1;p0 1;p1 1;");
    private static final int[] NO_IMAGES = {-1, -2, 2, 3, Checks.LEAST, Checks.LEAST + 1, Checks.MOST - 1, Checks.MOST};

    private BoundariesImagesTest() {
    }

    public static void main(String[] args) throws ReflectiveOperationException {
        Checks.runAll(BoundariesImagesTest.class, 18, 20);
    }

    private static Run at999(Run run) {
        return run.often(10, "ticks", 99).then("ticks", 9);
    }

    // ---- promise 18

    static void promise18ImagesAre0And1() {
        for (int image = 0; image <= 1; image++) {
            Checks.due("keep(" + image + ")", new Run().then("keep", image).answer(), 0);
            Checks.due("back(" + image + ")", new Run().then("keep", image).then("back", image).answer(), 0);
        }
        for (int image : NO_IMAGES) {
            Checks.dueUnchanged(new Run(), "keep", image, Checks.BAD);
            Checks.dueUnchanged(ROW.then("keep", 0).then("ticks", 1).then("keep", 1).then("ticks", 1), "keep", image, Checks.BAD);
        }
    }

    static void promise18AnswersTimeFrom0To999() {
        Checks.due("keep(0)", ROW.then("keep", 0).answer(), 0);
        Checks.due("keep(0)", ROW.then("ticks", 1).then("keep", 0).answer(), 1);
        Checks.due("keep(1)", at999(ROW).then("keep", 1).answer(), 999);
    }

    static void promise18KeepsOneImageAlone() {
        Run run = ROW.then("ticks", 3).then("keep", 0);
        Checks.due("back(1)", run.then("back", 1).answer(), Checks.STATE);
        Run both = run.then("ticks", 4).then("keep", 1);
        Checks.due("back(0)", both.then("back", 0).answer(), 3);
        Checks.due("back(1)", both.then("back", 1).answer(), 7);
    }

    static void promise18KeptAgainIsTheLater() {
        Run run = ROW.then("keep", 0).then("keep", 1).then("ticks", 5).then("needs", 4).then("keep", 0);
        Checks.due("back(0)", run.then("back", 0).answer(), 5);
        Checks.due("NEED", run.then("back", 0).then("count", 2).answer(), 4);
        Checks.due("back(1)", run.then("back", 1).answer(), 0);
        Checks.due("NEED", run.then("back", 1).then("count", 2).answer(), 2);
    }

    static void promise18ChangesNothingElse() {
        Run run = ROW.then("wishes", 0, 1).then("ticks", 1).then("needs", 3).write("i0");
        ClockCrossings ahead = run.made();
        ClockCrossings behind = run.then("keep", 0).made();
        Checks.dueRow("counts", Checks.counts(behind), Checks.counts(ahead));
        Checks.dueRow("values", Checks.values(behind), Checks.values(ahead));
        Checks.dueAlike("keep(0), undo()", run.then("keep", 0).then("undo").then("keep", 0), run.then("undo").then("keep", 0));
        Checks.dueAlike("keep(0) twice", run.then("keep", 0).then("keep", 0), run.then("keep", 0));
    }

    static void promise18AnImageStaysAsItWas() {
        Run kept = ROW.then("wishes", 0, 1).then("ticks", 1).then("keep", 0);
        Run later = kept.then("ticks", 9).then("wishes", 0, 0).then("needs", 4).then("ticks", 9).then("undo").then("undo");
        ClockCrossings x = later.then("back", 0).made();
        Checks.dueRow("counts", Checks.counts(x), 3, 0, 2, 1, 1, 0, 0, 0);
        Checks.dueRow("values", Checks.values(x), 1, 2, 0);
        Checks.due("wish(0)", x.wish(0), 1);
    }

    // ---- promise 19

    static void promise19NoImageIsBad() {
        Run kept = ROW.then("keep", 0).then("keep", 1).then("ticks", 1);
        for (int image : NO_IMAGES) {
            Checks.dueUnchanged(new Run(), "back", image, Checks.BAD);
            Checks.dueUnchanged(kept, "back", image, Checks.BAD);
        }
    }

    static void promise19NoneWasKept() {
        for (int image = 0; image <= 1; image++) {
            Checks.dueUnchanged(new Run(), "back", image, Checks.STATE);
            Checks.dueUnchanged(ROW.then("ticks", 1).then("keep", 1 - image), "back", image, Checks.STATE);
            Checks.dueUnchanged(new Run().then("keep", 0).then("keep", 1).then("tells").then("ticks", 1), "back", image, Checks.STATE);
        }
    }

    static void promise19ARefusedKeepKeepsNone() {
        Run run = ROW.then("ticks", 1);
        for (int bad : NO_IMAGES) {
            run = run.then("keep", bad);
        }
        Checks.due("back(0)", run.then("back", 0).answer(), Checks.STATE);
        Checks.due("back(1)", run.then("back", 1).answer(), Checks.STATE);
    }

    static void promise19ARefusedTextLeavesImages() {
        Run run = ROW.then("ticks", 7).then("keep", 0).then("ticks", 1).tell("z");
        Checks.due("back(0)", run.then("back", 0).answer(), 7);
    }

    static void promise19AnswersTimeFrom0To999() {
        Run both = at999(ROW.then("keep", 0)).then("keep", 1);
        Checks.due("back(0)", both.then("back", 0).answer(), 0);
        Checks.due("back(1)", both.then("back", 0).then("back", 1).answer(), 999);
        Checks.due("ticks(1) at 999", both.then("back", 0).then("back", 1).then("ticks", 1).answer(), Checks.STATE);
    }

    static void promise19AllOfNeedAndNow() {
        Run kept = new Run().tell("i0;r1 0;x1 1;r1 2;p0 1;p1 1;").then("wishes", 0, 1).then("ticks", 2).then("needs", 3)
                .then("wishes", 0, 0).then("keep", 1);
        ClockCrossings x = kept.then("ticks", 50).then("wishes", 0, 1).then("needs", 4).then("back", 1).made();
        Checks.dueRow("counts", Checks.counts(x), 4, 0, 3, 2, 1, 1, 0, 0);
        Checks.dueRow("values", Checks.values(x), 1, 1, 0, 2);
        Checks.due("wish(0)", x.wish(0), 0);
        Checks.dueAlike("back(1)", kept.then("ticks", 50).then("needs", 4).then("back", 1), kept.then("back", 1));
    }

    static void promise19NothingElse() {
        Run run = ROW.then("keep", 0).then("ticks", 1).write("i0;z");
        Checks.due("letters stay", run.then("back", 0).then("count", 6).answer(), 4);
        Checks.due("so does the text", run.then("back", 0).then("tells").answer(), -13);
        Checks.due("NODES stay", run.then("back", 0).then("count", 0).answer(), 3);
        Run other = ROW.then("keep", 0).then("ticks", 1).then("keep", 1).then("ticks", 1);
        Checks.due("the other image stays", other.then("back", 0).then("back", 1).answer(), 1);
    }

    static void promise19NothingCanBeUndoneBehindIt() {
        for (int many = 0; many <= 7; many++) {
            Run run = ROW.then("keep", 0).often(many, "ticks", 1).then("back", 0);
            Checks.due("count(7)", run.then("count", 7).answer(), 0);
            Checks.dueUnchanged(run, "undo", Checks.STATE);
            Checks.due("undo() of what came later", run.then("needs", 4).then("undo").answer(), 0);
        }
    }

    static void promise19AnImageStaysBehindIt() {
        Run run = ROW.then("ticks", 4).then("keep", 0).then("ticks", 4).then("back", 0).then("ticks", 4);
        Checks.due("back(0) again", run.then("back", 0).answer(), 4);
        Checks.dueAlike("back(0) twice", run.then("back", 0).then("back", 0), run.then("back", 0));
    }

    static void promise19UndoAndNeedsBehindIt() {
        Run run = ROW.then("needs", 4).then("keep", 0).then("needs", 2).then("back", 0);
        Checks.dueUnchanged(run, "needs", 4, Checks.STATE);
        Checks.due("needs(2)", run.then("needs", 2).answer(), 4);
    }

    // ---- promise 20

    static void promise20WhatIs0To7() {
        for (int what : new int[] {-1, -2, Checks.NONE, 8, 9, 15, Checks.LEAST, Checks.LEAST + 1, Checks.MOST - 1, Checks.MOST}) {
            Checks.dueUnchanged(new Run(), "count", what, Checks.BAD);
            Checks.dueUnchanged(ROW.then("ticks", 1).then("keep", 0), "count", what, Checks.BAD);
        }
    }

    static void promise20NodesFrom0To16() {
        for (int many = 0; many <= 16; many++) {
            Checks.due("count(0)", Checks.told("i0;".repeat(many)).count(0), many);
        }
        Checks.due("a 17th is not told", new Run().tell("i0;").tell("i0;".repeat(17)).then("count", 0).answer(), 1);
    }

    static void promise20MarksFrom0To6() {
        for (int many = 0; many <= 6; many++) {
            Checks.due("count(1)", Checks.told("i0;i0;" + "g0 1;".repeat(many)).count(1), many);
        }
        Checks.due("a seventh is not told", new Run().tell("i0;i0;g0 1;").tell("i0;i0;" + "e0 1;".repeat(7)).then("count", 1).answer(), 1);
    }

    static void promise20NeedFrom2To4() {
        for (int need = 2; need <= 4; need++) {
            Checks.due("count(2)", ROW.then("needs", need).then("count", 2).answer(), need);
        }
        Checks.due("5 is refused", ROW.then("needs", 4).then("needs", 5).then("count", 2).answer(), 4);
        Checks.due("1 is refused", ROW.then("needs", 1).then("count", 2).answer(), 2);
    }

    static void promise20TimeFrom0To999() {
        Checks.due("count(3)", ROW.then("count", 3).answer(), 0);
        Checks.due("count(3)", at999(ROW).then("count", 3).answer(), 999);
        Checks.due("not beyond", at999(ROW).then("ticks", 1).then("count", 3).answer(), 999);
    }

    static void promise20StruckAndLeakedGoOnBeyondOneCall() {
        Run run = new Run().tell("i0;" + "r1 0;".repeat(14) + "r2 1;p0 1;p1 1;p2 2;");
        int struck = 0;
        for (int i = 0; i < 20; i++) {
            run = run.then("wishes", 0, 1 - i % 2).then("ticks", 1);
            struck += run.answer();
        }
        Checks.due("count(4)", run.then("count", 4).answer(), struck);
        Checks.due("at each tick 14", struck, 280);
        Checks.due("count(5): at each second tick but none at first", run.then("count", 5).answer(), 10);
    }

    static void promise20LettersFrom0To160() {
        Checks.due("count(6)", new Run().then("count", 6).answer(), 0);
        Checks.due("count(6)", new Run().often(160, "type", 0).then("count", 6).answer(), 160);
        Checks.due("not beyond", new Run().often(161, "type", 0).then("count", 6).answer(), 160);
        Checks.due("behind clear()", new Run().often(160, "type", 0).then("clear").then("count", 6).answer(), 0);
    }

    static void promise20UndoneFrom0To6() {
        for (int many = 0; many <= 8; many++) {
            Checks.due("count(7)", ROW.often(many, "ticks", 1).then("count", 7).answer(), Math.min(6, many));
        }
    }
}
