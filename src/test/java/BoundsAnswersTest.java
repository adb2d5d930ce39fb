/** The bounds that promises 13 to 19 and 22 to 25 name, each sentence by itself. */
public final class BoundsAnswersTest {
    private static final int MIN = Integer.MIN_VALUE;
    private static final int MAX = Integer.MAX_VALUE;
    private static final long MM = 1000000000L;

    private BoundsAnswersTest() {
    }

    public static void main(String[] args) {
        levelNoSuchOnes();
        levelNotThereThen();
        ofNotAdded();
        ofAnotherWhat();
        carriesNoSuchOnes();
        surveyNotThere();
        surveyLevel();
        surveyOfTheLastStage();
        most();
        mostLeavesOffsets();
        ruleKind();
        ruleOfNoSuch();
        ruleLowAboveHigh();
        eightRules();
        brokenAllHold();
        brokenWhat();
        brokenFirstStage();
        bestNothingAdded();
        bestOfOne();
        bestOfSix();
        orderBounds();
        orderOfTheLatest();
        toldWhat();
        toldEndDay();
        check();
        Due.finish("BoundsAnswersTest");
    }

    /** Part i is wanted at 100 * (i + 1) mm and added in stage i, on day i; nothing goes up. */
    private static void steps(StageSteps x) {
        for (int i = 0; i < 3; i++) {
            x.part(i, 10, 100 * (i + 1));
            x.stage(i);
            x.add(i);
        }
    }

    private static void levelNoSuchOnes() {
        Bound.of(13, "no such part", 4, BoundsAnswersTest::steps)
            .refuses("level", MIN, 2).refuses("level", -1, 2).tells(100 * MM, "level", 0, 2)
            .tells(300 * MM, "level", 2, 2).refuses("level", 3, 2).refuses("level", 4, 2).refuses("level", MAX, 2);
        Bound.of(13, "no such stage", 4, BoundsAnswersTest::steps)
            .refuses("level", 0, MIN).refuses("level", 0, -1).tells(100 * MM, "level", 0, 0)
            .tells(100 * MM, "level", 0, 2).refuses("level", 0, 3).refuses("level", 0, 12).refuses("level", 0, MAX);
        Bound.of(13, "no such stage, of none", 2, Bridges::empty).refuses("level", 0, 0).refuses("level", 0, -1);
        Bound.of(13, "no such stage, of 12", 2, x -> {
            x.part(0, 0, 9);
            x.stage(0);
            x.add(0);
            Bridges.stages(x, 11);
        }).tells(9 * MM, "level", 0, 11).refuses("level", 0, 12);
    }

    private static void levelNotThereThen() {
        Bound.of(13, "or it is not there then", 4, BoundsAnswersTest::steps)
            .refuses("level", 1, 0).tells(200 * MM, "level", 1, 1).tells(200 * MM, "level", 1, 2)
            .refuses("level", 2, 0).refuses("level", 2, 1).tells(300 * MM, "level", 2, 2)
            .refuses("level", 3, 0).refuses("level", 3, 2);
    }

    private static void ofNotAdded() {
        Bound bound = Bound.of(14, "it is not added", 4, BoundsAnswersTest::steps);
        for (int what = 0; what <= 4; what++) {
            bound.refuses("of", MIN, what).refuses("of", -1, what).refuses("of", 3, what).refuses("of", 4, what)
                .refuses("of", MAX, what);
        }
        bound.tells(100 * MM, "of", 0, 0).tells(300 * MM, "of", 2, 0).tells(0, "of", 0, 4).tells(2, "of", 2, 4);
        Bound.of(14, "it is not added any more", 4, x -> {
            steps(x);
            x.redo(2);
        }).tells(200 * MM, "of", 1, 0).refuses("of", 2, 0).refuses("of", 2, 4);
    }

    private static void ofAnotherWhat() {
        Bound.of(14, "or another what", 4, x -> {
            steps(x);
            x.flex(0, 1, 1, -2);
            x.survey(0, 0, 107);
        }).refuses("of", 1, MIN).refuses("of", 1, -1).tells(202 * MM + 20000000L, "of", 1, 0)
            .tells(20000000L, "of", 1, 1).tells(2 * MM, "of", 1, 2).tells(-20000000L, "of", 1, 3).tells(1, "of", 1, 4)
            .refuses("of", 1, 5).refuses("of", 1, MAX);
    }

    private static void carriesNoSuchOnes() {
        // 2 carries 0.197 of part 3's 13 and -5 tonnes, 0.2 of part 0's 10
        Bound.of(15, "no such support", 4, Bridges::busy)
            .refuses("carries", MIN, 2).refuses("carries", -1, 2).tells(0, "carries", 0, 2).tells(0, "carries", 1, 2)
            .tells(13 * 197 - 5 * 197 + 10 * 200, "carries", 2, 2).refuses("carries", 3, 2).refuses("carries", MAX, 2);
        Bound.of(15, "no such stage", 4, Bridges::busy)
            .refuses("carries", 0, MIN).refuses("carries", 0, -1).tells(0, "carries", 0, 0)
            .tells(13 * 303 - 5 * 303, "carries", 0, 1).tells(0, "carries", 0, 2).refuses("carries", 0, 3)
            .refuses("carries", 0, 12).refuses("carries", 0, MAX);
        Bound.of(15, "no such stage, of none", 2, Bridges::empty).refuses("carries", 0, 0).refuses("carries", 2, -1);
    }

    private static void surveyNotThere() {
        Bound.of(16, "the part is not there at the end of the stage", 4, BoundsAnswersTest::steps)
            .refuses("survey", 1, 0, 900).does(700 * MM, "survey", 1, 1, 900).refuses("survey", 2, 1, 900)
            .tells(600 * MM, "survey", 2, 2, 900).refuses("survey", 3, 0, 900).refuses("survey", 3, 2, 900);
        Bound.of(16, "or no such ones: part", 4, BoundsAnswersTest::steps)
            .refuses("survey", MIN, 0, 900).refuses("survey", -1, 0, 900).does(800 * MM, "survey", 0, 0, 900)
            .refuses("survey", 4, 0, 900).refuses("survey", MAX, 0, 900);
        Bound.of(16, "or no such ones: stage", 4, BoundsAnswersTest::steps)
            .refuses("survey", 0, MIN, 900).refuses("survey", 0, -1, 900).does(800 * MM, "survey", 0, 1, 900)
            .refuses("survey", 0, 3, 900).refuses("survey", 0, 12, 900).refuses("survey", 0, MAX, 900);
        Bound.of(16, "or no such ones: no stage", 4, Bridges::empty).refuses("survey", 0, 0, 900);
    }

    private static void surveyLevel() {
        Bound.of(16, "the level is not -1000000 .. 1000000 mm", 4, BoundsAnswersTest::steps)
            .refuses("survey", 0, 0, MIN).refuses("survey", 0, 0, -1000001)
            .does(-1000100 * MM, "survey", 0, 0, -1000000).does(999900 * MM, "survey", 0, 0, 1000000)
            .refuses("survey", 0, 0, 1000001).refuses("survey", 0, 0, MAX);
        Bound.of(16, "nothing is done: offsets stay", 4, Bridges::busy)
            .refuses("survey", 1, 0, 1000001).refuses("survey", 1, 0, -1000001).refuses("survey", 3, 0, 0);
    }

    private static void surveyOfTheLastStage() {
        Bound.of(16, "the parts that are added in later stages: none", 4, BoundsAnswersTest::steps)
            .tells(800 * MM, "survey", 0, 2, 900).tells(0, "survey", 0, 2, 100).tells(-400 * MM, "survey", 2, 2, -100);
    }

    private static void most() {
        Bound.of(17, "MOST, 0 .. 1000 mm", 4, Bridges::busy)
            .refuses("most", MIN).refuses("most", -1).takes("most", 0).takes("most", 1).takes("most", 6)
            .tells(1, "most", 7).takes("most", 8).takes("most", 1000).refuses("most", 1001).refuses("most", MAX);
    }

    private static void mostLeavesOffsets() {
        for (int v : new int[] {0, 5, 1000}) {
            StageSteps x = new StageSteps(4);
            steps(x);
            x.survey(0, 0, 120);
            Due.yes("17: most(" + v + ")", x.most(v));
            Due.is("17: offsets stay as they are", x.of(1, 2), 15 * MM);
            Due.is("17: offsets stay as they are", x.of(2, 2), 10 * MM);
            Due.is("17: levels, too", x.level(2, 2), 310 * MM);
        }
    }

    private static void ruleKind() {
        Bound.of(18, "no such kind", 4, Bridges::busy)
            .refuses("rule", MIN, 0, 1, 2).refuses("rule", -1, 0, 1, 2).does(2, "rule", 0, 0, 1, 2)
            .does(2, "rule", 1, 0, 1, 2).does(2, "rule", 2, 0, 1, 2).refuses("rule", 3, 0, 1, 2)
            .refuses("rule", MAX, 0, 1, 2);
    }

    private static void ruleOfNoSuch() {
        for (int p = 2; p <= 6; p++) {
            Bound.of(18, "no such part, of " + p, p, Bridges::empty)
                .refuses("rule", 0, MIN, 1, 2).refuses("rule", 0, -1, 1, 2).does(0, "rule", 0, 0, 1, 2)
                .does(0, "rule", 0, p - 1, 1, 2).refuses("rule", 0, p, 1, 2).refuses("rule", 0, MAX, 1, 2);
            Bound.of(18, "no such part (for kind 1: and next one), of " + p, p, Bridges::empty)
                .refuses("rule", 1, MIN, 1, 2).refuses("rule", 1, -1, 1, 2).does(0, "rule", 1, 0, 1, 2)
                .does(0, "rule", 1, p - 2, 1, 2).refuses("rule", 1, p - 1, 1, 2).refuses("rule", 1, p, 1, 2)
                .refuses("rule", 1, MAX, 1, 2);
            Bound.of(18, "no such support, of " + p + " parts", p, Bridges::empty)
                .refuses("rule", 2, MIN, 1, 2).refuses("rule", 2, -1, 1, 2).does(0, "rule", 2, 0, 1, 2)
                .does(0, "rule", 2, 2, 1, 2).refuses("rule", 2, 3, 1, 2).refuses("rule", 2, MAX, 1, 2);
        }
    }

    private static void ruleLowAboveHigh() {
        Bound bound = Bound.of(18, "low above high", 4, Bridges::busy);
        for (int kind = 0; kind <= 2; kind++) {
            bound.does(2, "rule", kind, 0, -1, 0).does(2, "rule", kind, 0, 0, 0).refuses("rule", kind, 0, 1, 0)
                .refuses("rule", kind, 0, MAX, MIN).does(2, "rule", kind, 0, MIN, MAX).does(2, "rule", kind, 0, MIN, MIN)
                .does(2, "rule", kind, 0, MAX, MAX).refuses("rule", kind, 0, MAX, MAX - 1)
                .refuses("rule", kind, 0, MIN + 1, MIN);
        }
    }

    private static void rules(StageSteps x, int count) {
        steps(x);
        for (int k = 0; k < count; k++) {
            x.rule(2, 0, 0, k);
        }
    }

    private static void eightRules() {
        Bound.of(18, "or there are 8: the eighth", 4, x -> rules(x, 7)).does(7, "rule", 0, 0, 1, 2);
        Bound.of(18, "or there are 8: a ninth", 4, x -> rules(x, 8))
            .refuses("rule", 0, 0, 1, 2).refuses("rule", 1, 0, 1, 2).refuses("rule", 2, 0, 1, 2).tells(8, "told", 4);
        Bound.of(18, "stages that go leave the rules", 4, x -> {
            rules(x, 8);
            x.redo(0);
        }).refuses("rule", 0, 0, 1, 2).tells(8, "told", 4);
    }

    /** Part 0 is at 100 mm from stage 0 on, part 1 at 200 mm from stage 1 on; supports carry nothing. */
    private static void brokenAllHold() {
        Bound.of(19, "NONE when all hold: no rule", 4, BoundsAnswersTest::steps).refuses("broken", 0).refuses("broken", 1);
        Bound.of(19, "NONE when all hold: no stage", 4, x -> {
            x.rule(0, 0, 5, 5);
            x.rule(2, 0, 5, 5);
        }).refuses("broken", 0).refuses("broken", 1);
        Bound.of(19, "NONE when all hold: on their bounds", 4, x -> {
            steps(x);
            x.rule(0, 0, 100, 100);
            x.rule(1, 0, -100, -100);
            x.rule(2, 1, 0, 0);
        }).refuses("broken", 0).refuses("broken", 1);
        ruleAndBroken("19: a level, low", 0, 0, 101, MAX, 0);
        ruleAndBroken("19: a level, high", 0, 0, MIN, 99, 0);
        ruleAndBroken("19: a level less that of the next, low", 1, 0, -99, MAX, 1);
        ruleAndBroken("19: a level less that of the next, high", 1, 0, MIN, -101, 1);
        ruleAndBroken("19: what a support carries, low", 2, 1, 1, MAX, 0);
        ruleAndBroken("19: what a support carries, high", 2, 1, MIN, -1, 0);
    }

    private static void ruleAndBroken(String what, int kind, int of, int low, int high, long stage) {
        StageSteps x = new StageSteps(4);
        steps(x);
        x.rule(0, 0, 100, 100);
        Due.none(what + ": holds", x.broken(0));
        Due.is(what + ": the rule", x.rule(kind, of, low, high), 1);
        Due.is(what + ": the stage", x.broken(0), stage);
        Due.is(what + ": its number", x.broken(1), 1);
    }

    private static void brokenWhat() {
        Bound.of(19, "or another what", 4, x -> {
            steps(x);
            x.rule(0, 0, 100, 100);
            x.rule(0, 1, 0, 0);
        }).refuses("broken", MIN).refuses("broken", -1).tells(1, "broken", 0).tells(1, "broken", 1)
            .refuses("broken", 2).refuses("broken", MAX);
    }

    private static void brokenFirstStage() {
        Bound.of(19, "the first stage, the least number of such a rule in it", 4, x -> {
            steps(x);
            x.rule(0, 2, 0, 0);
            x.rule(0, 1, 200, 200);
            x.rule(0, 1, 0, 199);
            x.rule(0, 1, 201, 300);
        }).tells(1, "broken", 0).tells(2, "broken", 1);
        Bound.of(19, "the last stage, the last rule", 4, x -> {
            steps(x);
            for (int day = 3; day < 12; day++) {
                x.stage(day);
            }
            x.add(3);
            for (int k = 0; k < 7; k++) {
                x.rule(0, 3, 0, k);
            }
            x.rule(0, 3, 1, 1);
        }).tells(11, "broken", 0).tells(7, "broken", 1);
    }

    private static void bestNothingAdded() {
        Bound.of(22, "nothing is added", 4, Bridges::empty).refuses("best").refuses("order", 0);
        Bound.of(22, "nothing is added, but a stage and a support", 4, x -> {
            x.stage(3);
            x.support(1, true);
        }).refuses("best");
        Bound.of(22, "nothing is added any more", 4, x -> {
            Bridges.busy(x);
            x.redo(0);
        }).refuses("best").tells(1, "order", 0).tells(0, "order", 2);
    }

    private static void bestOfOne() {
        StageSteps x = new StageSteps(4);
        x.part(3, 5, 0);
        x.flex(0, 3, 3, -4);
        x.stage(3);
        x.add(3);
        Due.is("22: one part", x.best(), 20000000L);
        Due.is("23: one part", x.order(0), 3);
        Due.none("23: one part", x.order(1));
    }

    /** Part 0 goes up when any other comes behind it, by far the most by part 5; the last row is the best. */
    private static void bestOfSix() {
        StageSteps x = new StageSteps(6);
        for (int i = 0; i < 6; i++) {
            x.part(i, 10, 0);
            for (int j = i + 1; j < 6; j++) {
                x.flex(0, i, j, 10 * i + j);
            }
        }
        for (int i = 0; i < 6; i++) {
            x.stage(i);
            x.add(i);
        }
        Due.is("22: as it is, 0 goes up by 15, 1 by 54, 2 by 72, 3 by 69, 4 by 45", x.of(2, 3), 720000000L);
        Due.is("22: the last of 720 rows", x.best(), 0);
        for (int k = 0; k < 6; k++) {
            Due.is("23: order(" + k + ")", x.order(k), 5 - k);
        }
        Due.none("23: order(6)", x.order(6));
        for (int i = 0; i < 5; i++) {
            x.after(i, i + 1);
        }
        Due.is("22: one row is allowed", x.best(), 720000000L);
        Due.is("23: the first of it", x.order(0), 0);
        Due.is("23: the last of it", x.order(5), 5);
    }

    private static void orderBounds() {
        // its loads leave 1, 3, 0 alone
        Bound.of(23, "the k-th, from 0 on", 4, Bridges::busy)
            .refuses("order", MIN).refuses("order", -1).tells(1, "order", 0).tells(3, "order", 1).tells(0, "order", 2)
            .refuses("order", 3).refuses("order", 4).refuses("order", 6).refuses("order", MAX);
        Bound.of(23, "none is found", 4, BoundsAnswersTest::steps)
            .refuses("order", -1).refuses("order", 0).refuses("order", 1);
    }

    private static void orderOfTheLatest() {
        StageSteps x = new StageSteps(4);
        steps(x);
        x.best();
        Due.is("23: three are found", x.order(2), 2);
        x.redo(0);
        Due.none("22: nothing is added", x.best());
        Due.is("23: the latest that was not NONE", x.order(2), 2);
        x.stage(0);
        x.add(3);
        x.add(1);
        Due.is("23: adding finds none", x.order(0), 0);
        Due.is("22: two parts", x.best(), 0);
        Due.is("23: the latest", x.order(0), 1);
        Due.is("23: the latest", x.order(1), 3);
        Due.none("23: the latest has two", x.order(2));
    }

    private static void toldWhat() {
        Bound.of(24, "NONE for others", 4, Bridges::busy)
            .refuses("told", MIN).refuses("told", -1).tells(3, "told", 0).tells(8, "told", 1).tells(3, "told", 2)
            .tells(4, "told", 3).tells(2, "told", 4).tells(60, "told", 5).refuses("told", 6).refuses("told", MAX);
        Bound.of(24, "all at their most", 6, BoundsAnswersTest::full)
            .tells(12, "told", 0).tells(40, "told", 1).tells(6, "told", 2).tells(7, "told", 3).tells(8, "told", 4)
            .tells(40000, "told", 5);
    }

    private static void full(StageSteps x) {
        for (int i = 0; i < 6; i++) {
            x.stage(i);
            x.add(i);
        }
        for (int day = 6; day < 12; day++) {
            x.stage(day);
        }
        for (int k = 0; k < 3; k++) {
            x.support(k, true);
        }
        for (int act = 9; act < 40; act++) {
            x.load(0, 1);
        }
        for (int k = 0; k < 8; k++) {
            x.rule(0, 0, 0, k);
        }
        x.end(40000);
    }

    private static void toldEndDay() {
        Bound.of(24, "5; NONE without a stage", 4, Bridges::empty).refuses("told", 5);
        Bound.of(24, "5; with a stage on day 0", 4, x -> x.stage(0)).tells(0, "told", 5);
        Bound.of(24, "5; NONE without a stage any more", 4, x -> {
            Bridges.busy(x);
            x.redo(0);
        }).refuses("told", 5).tells(0, "told", 0).tells(0, "told", 1).tells(0, "told", 2).tells(0, "told", 3)
            .tells(2, "told", 4);
    }

    private static void check() {
        Bound.of(25, "each part that is added: none is", 4, Bridges::empty).tells(1, "check");
        Bound.of(25, "each part that is added", 4, Bridges::busy).tells(1, "check");
        Bound.of(25, "each part that is added, and its offset more", 4, x -> {
            steps(x);
            x.survey(0, 0, 1000000);
        }).tells(1, "check").tells(1000095 * MM, "level", 1, 2);
    }
}
