/** Sentences of the document that stand outside its promises, or that go across several of them. */
public final class DocumentTest {
    private static final long MM = 1000000000L;

    private DocumentTest() {
    }

    public static void main(String[] args) {
        fiveHundredAndTwelveCalls();
        twoObjects();
        bestLeavesThePlan();
        partsAddedBehindTheSurvey();
        offsetsAreNotOfThePlan();
        endOnTheLastStagesOwnDay();
        whatCarriesLessThanNothing();
        Due.finish("DocumentTest");
    }

    /** 102 rounds of five calls; the last two of 512 answer as on a new object. */
    private static void fiveHundredAndTwelveCalls() {
        StageSteps x = new StageSteps(2);
        for (int round = 0; round < 102; round++) {
            Due.is("8: stage, round " + round, x.stage(round), 0);
            Due.yes("9: add, round " + round, x.add(round % 2));
            Due.yes("10: load, round " + round, x.load(round % 2, round));
            Due.is("22: best, round " + round, x.best(), 0);
            Due.is("21: redo, round " + round, x.redo(0), 2);
        }
        Due.is("8: the 511th call", x.stage(20000), 0);
        Due.is("24: the 512th call", x.told(5), 20000);
    }

    /** What is told to one object is nothing to another. */
    private static void twoObjects() {
        StageSteps one = new StageSteps(4);
        StageSteps other = new StageSteps(4);
        StageSteps alone = new StageSteps(4);
        Bridges.givens(one);
        Bridges.acts(other, 20);
        Bridges.plan(one);
        other.best();
        other.redo(0);
        Due.none("22: the other one's plan is gone", other.best());
        Bridges.givens(alone);
        Bridges.plan(alone);
        Due.yes("1: an object beside another is as one alone", Later.of(one).equals(Later.of(alone)));
        Due.yes("1: a new object is new", State.of(new StageSteps(4)).equals(State.of(new StageSteps(4))));
    }

    private static void bestLeavesThePlan() {
        StageSteps x = new StageSteps(4);
        Bridges.busy(x);
        long least = x.best();
        Bound.of(22, "finds the best order", 4, Bridges::busy).tells(least, "best");
    }

    private static void partsAddedBehindTheSurvey() {
        StageSteps x = new StageSteps(4);
        x.stage(0);
        x.add(0);
        x.stage(1);
        x.add(1);
        x.survey(0, 0, 50);
        x.add(2);
        x.stage(2);
        x.add(3);
        Due.is("16: it was in the plan", x.of(1, 2), 45 * MM);
        Due.is("14: its offset is 0 at first, in the stage", x.of(2, 2), 0);
        Due.is("14: its offset is 0 at first, in a later one", x.of(3, 2), 0);
        x.survey(0, 0, 50);
        Due.is("16: now it is in the plan", x.of(2, 2), 40 * MM);
        Due.is("16: now it is in the plan", x.of(3, 2), 35 * MM);
    }

    /** What is told later counts for the plan, and so for levels; an offset is what the survey gave. */
    private static void offsetsAreNotOfThePlan() {
        StageSteps x = new StageSteps(2);
        x.stage(0);
        x.add(0);
        x.stage(1);
        x.add(1);
        x.survey(0, 0, 50);
        x.part(0, 10, 20);
        x.part(1, 0, 7);
        x.flex(0, 0, 0, 3);
        x.shift(1, 5);
        x.end(100);
        Due.is("16: the offset that it got", x.of(1, 2), 45 * MM);
        Due.is("13: where it is wanted, and the offset more", x.level(1, 1), 52 * MM);
        Due.is("16: the error is from the plan as it is", x.survey(0, 0, 50), 30 * MM);
        Due.is("16: the offset that it gets", x.of(1, 2), 25 * MM);
    }

    private static void endOnTheLastStagesOwnDay() {
        StageSteps x = new StageSteps(2);
        x.stage(10);
        x.stage(30);
        Due.yes("12: the last stage's own day is told", x.end(30));
        x.shift(1, -5);
        Due.is("12: it is a later one that was told", x.told(5), 30);
        x.redo(1);
        Due.is("12: it is a later one that was told", x.told(5), 30);
        x.shift(0, 21);
        Due.is("12: the last stage is on a later day", x.told(5), 31);
        x.shift(0, -21);
        Due.is("12: it is told no more", x.told(5), 10);
    }

    private static void whatCarriesLessThanNothing() {
        int[] signs = {1, -1};
        for (int tonnes : signs) {
            for (int share : signs) {
                for (int release : signs) {
                    StageSteps x = new StageSteps(2);
                    x.share(1, 0, share * 500);
                    x.release(1, 0, release * 4);
                    x.stage(0);
                    x.support(1, true);
                    x.add(0);
                    x.load(0, tonnes * 3);
                    Due.is("15: tonnes times its SHARE", x.carries(1, 0), tonnes * share * 1500);
                    x.stage(1);
                    x.support(1, false);
                    Due.is("5: what it carried times its RELEASE", x.of(0, 3), tonnes * share * release * 6000000L);
                }
            }
        }
    }
}
