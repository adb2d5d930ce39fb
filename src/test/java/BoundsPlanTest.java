/** The bounds that promises 8 to 12, 20 and 21 name, each sentence by itself. */
public final class BoundsPlanTest {
    private static final int MIN = Integer.MIN_VALUE;
    private static final int MAX = Integer.MAX_VALUE;

    private BoundsPlanTest() {
    }

    public static void main(String[] args) {
        stageDay();
        stageAbove();
        twelveStages();
        addNoStage();
        addNoSuchPart();
        addIsThere();
        addComesAfter();
        addNoRoom();
        loadNumber();
        loadNotThere();
        loadNoRoom();
        supportNoSuch();
        supportIsSo();
        supportNoRoom();
        endBefore();
        endAbove();
        endNoStage();
        endToldNoMoreByStage();
        endToldNoMoreByShift();
        endToldNoMoreWithoutStage();
        shiftNoSuchStage();
        shiftAboveTheOneBefore();
        shiftBounds();
        shiftAllLater();
        redoNoSuchStage();
        redoCountsActs();
        redoOffsets();
        redoMakesRoom();
        Due.finish("BoundsPlanTest");
    }

    private static void stageDay() {
        Bound.of(8, "the day is not 0 .. 20000", 3, Bridges::empty)
            .refuses("stage", MIN).refuses("stage", -1).does(0, "stage", 0).does(0, "stage", 1).does(0, "stage", 20000)
            .refuses("stage", 20001).refuses("stage", 40000).refuses("stage", MAX);
    }

    private static void stageAbove() {
        Bound.of(8, "not above that of the one before", 4, Bridges::busy)
            .refuses("stage", 0).refuses("stage", 3).refuses("stage", 12).refuses("stage", 13).does(3, "stage", 14)
            .does(3, "stage", 20000).refuses("stage", 20001);
        Bound.of(8, "not above that of the one before, day 0", 3, x -> x.stage(0))
            .refuses("stage", -1).refuses("stage", 0).does(1, "stage", 1);
        Bound.of(8, "not above that of the one before, day 20000", 3, x -> x.stage(20000))
            .refuses("stage", 19999).refuses("stage", 20000).refuses("stage", 20001);
        Bound.of(8, "the one before is the one that stays", 3, x -> {
            Bridges.stages(x, 3);
            x.redo(1);
        }).refuses("stage", 1).does(1, "stage", 2);
    }

    private static void twelveStages() {
        Bound.of(8, "or there are 12: the twelfth", 3, x -> Bridges.stages(x, 11)).does(11, "stage", 12);
        Bound.of(8, "or there are 12: a thirteenth", 3, x -> Bridges.stages(x, 12))
            .refuses("stage", 13).refuses("stage", 20000);
        Bound.of(8, "or there are 12: one of 12 went", 3, x -> {
            Bridges.stages(x, 12);
            x.redo(11);
        }).does(11, "stage", 12);
    }

    private static void addNoStage() {
        Bound.of(9, "no stage", 3, Bridges::empty).refuses("add", 0).refuses("add", 2);
        Bound.of(9, "a stage", 3, x -> x.stage(0)).takes("add", 0).takes("add", 2);
        Bound.of(9, "no stage any more", 4, x -> {
            Bridges.busy(x);
            x.redo(0);
        }).refuses("add", 0).refuses("add", 1);
    }

    private static void addNoSuchPart() {
        Bound.of(9, "no such part", 3, x -> x.stage(0))
            .refuses("add", MIN).refuses("add", -1).takes("add", 0).takes("add", 2).refuses("add", 3).refuses("add", MAX);
    }

    private static void addIsThere() {
        Bound.of(9, "it is there", 4, Bridges::busy)
            .refuses("add", 0).refuses("add", 1).takes("add", 2).refuses("add", 3);
        Bound.of(9, "it is there no more", 4, x -> {
            Bridges.busy(x);
            x.redo(2);
        }).takes("add", 0).refuses("add", 1).takes("add", 2).refuses("add", 3);
    }

    private static void addComesAfter() {
        Bound.of(9, "one that it must come after is not", 4, BoundsPlanTest::waiting)
            .refuses("add", 2).refuses("add", 3).takes("add", 1);
        Bound.of(9, "all that it must come after are", 4, x -> {
            waiting(x);
            x.stage(6);
            x.add(1);
        }).takes("add", 2).refuses("add", 3);
    }

    /** 2 must come after 0 and 1, 3 after 2; 0 is there. */
    private static void waiting(StageSteps x) {
        x.after(0, 2);
        x.after(1, 2);
        x.after(2, 3);
        x.stage(5);
        x.add(0);
    }

    private static void addNoRoom() {
        Bound.of(9, "or no room: the 40th act", 3, x -> Bridges.acts(x, 39)).takes("add", 1);
        Bound.of(9, "or no room: a 41st", 3, x -> Bridges.acts(x, 40)).refuses("add", 1).refuses("add", 2);
        Bound.of(9, "or no room, in a new stage", 3, x -> {
            Bridges.acts(x, 40);
            x.stage(9);
        }).refuses("add", 1);
    }

    private static void loadNumber() {
        Bound.of(10, "a load (-1000 .. 1000)", 4, Bridges::busy)
            .refuses("load", 1, MIN).refuses("load", 1, -1001).takes("load", 1, -1000).takes("load", 1, -1)
            .takes("load", 1, 0).takes("load", 1, 1000).refuses("load", 1, 1001).refuses("load", 1, MAX);
    }

    private static void loadNotThere() {
        Bound.of(10, "no stage", 3, Bridges::empty).refuses("load", 0, 5);
        Bound.of(10, "no such part", 4, Bridges::busy)
            .refuses("load", MIN, 5).refuses("load", -1, 5).takes("load", 0, 5).takes("load", 3, 5)
            .refuses("load", 4, 5).refuses("load", MAX, 5);
        Bound.of(10, "it is not there", 4, Bridges::busy).refuses("load", 2, 5).refuses("load", 2, 0);
        Bound.of(10, "it is not there any more", 4, x -> {
            Bridges.busy(x);
            x.redo(1);
        }).refuses("load", 0, 5).takes("load", 1, 5).refuses("load", 3, 5);
    }

    private static void loadNoRoom() {
        Bound.of(10, "or no room: the 40th act", 3, x -> Bridges.acts(x, 39)).takes("load", 0, 5);
        Bound.of(10, "or no room: a 41st", 3, x -> Bridges.acts(x, 40)).refuses("load", 0, 5).refuses("load", 0, 0);
    }

    private static void supportNoSuch() {
        Bound.of(11, "no stage", 3, Bridges::empty).refuses("support", 0, 1).refuses("support", 0, 0);
        Bound.of(11, "no such support", 3, x -> x.stage(0))
            .refuses("support", MIN, 1).refuses("support", -1, 1).takes("support", 0, 1).takes("support", 2, 1)
            .refuses("support", 3, 1).refuses("support", 32, 1).refuses("support", MAX, 1)
            .refuses("support", -1, 0).refuses("support", 3, 0);
    }

    private static void supportIsSo() {
        Bound.of(11, "it is so already", 4, Bridges::busy)
            .refuses("support", 0, 0).takes("support", 0, 1).refuses("support", 1, 0).takes("support", 1, 1)
            .refuses("support", 2, 1).takes("support", 2, 0);
        Bound.of(11, "it is so again when stages go", 4, x -> {
            Bridges.busy(x);
            x.redo(2);
        }).refuses("support", 0, 1).takes("support", 0, 0).refuses("support", 2, 1).takes("support", 2, 0);
    }

    private static void supportNoRoom() {
        Bound.of(11, "or no room: the 40th act", 3, x -> Bridges.acts(x, 39)).takes("support", 1, 1);
        Bound.of(11, "or no room: a 41st", 3, x -> Bridges.acts(x, 40)).refuses("support", 1, 1);
        Bound.of(11, "or no room to take off", 3, x -> {
            Bridges.acts(x, 39);
            x.support(1, true);
        }).refuses("support", 1, 0);
    }

    private static void endBefore() {
        Bound.of(12, "it is before the last stage", 4, Bridges::busy)
            .refuses("end", MIN).refuses("end", -1).refuses("end", 0).refuses("end", 12).takes("end", 13)
            .takes("end", 14).takes("end", 59).tells(1, "end", 60).takes("end", 61);
        Bound.of(12, "it is before the last stage, day 0", 3, x -> x.stage(0)).refuses("end", -1).tells(1, "end", 0);
    }

    private static void endAbove() {
        Bound.of(12, "above 40000", 4, Bridges::busy)
            .takes("end", 20001).takes("end", 40000).refuses("end", 40001).refuses("end", MAX);
    }

    private static void endNoStage() {
        Bound.of(12, "there is no stage", 3, Bridges::empty)
            .refuses("end", -1).refuses("end", 0).refuses("end", 1).refuses("end", 40000);
    }

    /** A stage on day 10, the end day told: 100. */
    private static StageSteps ending() {
        StageSteps x = new StageSteps(2);
        x.stage(10);
        x.end(100);
        return x;
    }

    private static void endToldNoMoreByStage() {
        StageSteps on = ending();
        Due.is("12: a stage on the end day", on.stage(100), 1);
        Due.is("12: the end day", on.told(5), 100);
        on.redo(1);
        Due.is("12: it is told still", on.told(5), 100);
        StageSteps after = ending();
        Due.is("12: a stage on the day after it", after.stage(101), 1);
        Due.is("12: the last stage's day again", after.told(5), 101);
        after.redo(1);
        Due.is("12: it is told no more", after.told(5), 10);
        Due.yes("12: it may be told again", after.end(11));
        Due.is("12: told again", after.told(5), 11);
        StageSteps refused = ending();
        Due.none("12: a stage that is refused", refused.stage(20001));
        Due.none("12: a stage that is refused", refused.stage(10));
        Due.is("12: the end day stays", refused.told(5), 100);
    }

    private static void endToldNoMoreByShift() {
        StageSteps on = ending();
        Due.yes("12: shifted to the end day", on.shift(0, 90));
        Due.is("12: the end day", on.told(5), 100);
        on.shift(0, -50);
        Due.is("12: it is told still", on.told(5), 100);
        StageSteps after = ending();
        Due.yes("12: shifted to the day after it", after.shift(0, 91));
        Due.is("12: the last stage's day again", after.told(5), 101);
        after.shift(0, -50);
        Due.is("12: it is told no more", after.told(5), 51);
        StageSteps refused = ending();
        Due.no("12: a shift that is refused", refused.shift(0, 19991));
        Due.no("12: a shift that is refused", refused.shift(0, MAX));
        Due.is("12: the end day stays", refused.told(5), 100);
        StageSteps two = ending();
        two.stage(60);
        Due.yes("12: the last stage to the end day", two.shift(0, 40));
        Due.is("12: the end day", two.told(5), 100);
        Due.yes("12: the last stage to the day after it", two.shift(1, 1));
        two.redo(1);
        Due.is("12: it is told no more", two.told(5), 50);
    }

    private static void endToldNoMoreWithoutStage() {
        StageSteps x = ending();
        x.stage(20);
        x.redo(1);
        Due.is("12: there is a stage", x.told(5), 100);
        x.redo(0);
        Due.none("12: or there is no stage", x.told(5));
        x.stage(7);
        Due.is("12: it is told no more", x.told(5), 7);
    }

    private static void shiftNoSuchStage() {
        Bound.of(20, "no such stage", 4, Bridges::busy)
            .refuses("shift", MIN, 1).refuses("shift", -1, 1).takes("shift", 0, 1).takes("shift", 2, 1)
            .refuses("shift", 3, 1).refuses("shift", 12, 1).refuses("shift", MAX, 1).refuses("shift", 3, 0);
        Bound.of(20, "no such stage, of none", 3, Bridges::empty)
            .refuses("shift", 0, 0).refuses("shift", 0, 1).refuses("shift", -1, 0);
        Bound.of(20, "no such stage, of 12", 3, x -> Bridges.stages(x, 12))
            .takes("shift", 11, 1).refuses("shift", 12, 1);
    }

    private static void shiftAboveTheOneBefore() {
        Bound.of(20, "a day would not be above the one before", 4, Bridges::busy)
            .tells(1, "shift", 1, 0).takes("shift", 1, -1).takes("shift", 1, -5).refuses("shift", 1, -6)
            .refuses("shift", 1, -7).takes("shift", 2, -4).refuses("shift", 2, -5).refuses("shift", 2, -13)
            .refuses("shift", 2, -20000).refuses("shift", 2, -20001).refuses("shift", 2, MIN);
    }

    private static void shiftBounds() {
        Bound.of(20, "or be beyond its bounds", 4, Bridges::busy)
            .takes("shift", 0, -2).refuses("shift", 0, -3).refuses("shift", 0, MIN).refuses("shift", 0, MIN + 2)
            .takes("shift", 0, 19987).refuses("shift", 0, 19988).takes("shift", 1, 19987).refuses("shift", 1, 19988)
            .takes("shift", 2, 19987).refuses("shift", 2, 19988).refuses("shift", 2, 20000).refuses("shift", 2, 20001)
            .refuses("shift", 0, MAX).refuses("shift", 1, MAX - 7).refuses("shift", 2, MAX - 12);
        Bound.of(20, "or be beyond its bounds, from day 0", 3, x -> x.stage(0))
            .refuses("shift", 0, -1).tells(1, "shift", 0, 0).takes("shift", 0, 20000).refuses("shift", 0, 20001);
        Bound.of(20, "or be beyond its bounds, from day 20000", 3, x -> x.stage(20000))
            .refuses("shift", 0, 1).takes("shift", 0, -20000).refuses("shift", 0, -20001).refuses("shift", 0, MIN);
    }

    /** The end day of the stages up to one is that one's day. */
    private static void shiftAllLater() {
        for (int from = 0; from < 4; from++) {
            for (int stage = 0; stage < 4; stage++) {
                StageSteps x = new StageSteps(2);
                for (int k = 0; k < 4; k++) {
                    x.stage(10 * k + 10);
                }
                x.shift(from, 3);
                x.redo(stage + 1);
                Due.is("20: a stage, and all later ones, from " + from + ": stage " + stage, x.told(5),
                        10 * stage + 10 + (stage >= from ? 3 : 0));
            }
        }
    }

    private static void redoNoSuchStage() {
        Bound.of(21, "no such stage", 4, Bridges::busy)
            .refuses("redo", MIN).refuses("redo", -1).does(8, "redo", 0).does(4, "redo", 1).does(2, "redo", 2)
            .refuses("redo", 3).refuses("redo", 12).refuses("redo", MAX);
        Bound.of(21, "no such stage, of none", 3, Bridges::empty).refuses("redo", -1).refuses("redo", 0);
        Bound.of(21, "no such stage, of 12", 3, x -> Bridges.stages(x, 12)).does(0, "redo", 11).refuses("redo", 12);
    }

    private static void redoCountsActs() {
        Bound.of(21, "how many acts went: of 40", 3, x -> Bridges.acts(x, 40)).does(40, "redo", 0).does(20, "redo", 1);
        Bound.of(21, "how many acts went: a stage without acts", 4, x -> {
            Bridges.busy(x);
            x.stage(14);
        }).does(0, "redo", 3).does(2, "redo", 2);
    }

    /** Part p - 1 - i is added in stage i; from each stage on they go, and are added again in the stage before. */
    private static void redoOffsets() {
        for (int from = 1; from <= 5; from++) {
            StageSteps x = new StageSteps(6);
            for (int i = 0; i < 6; i++) {
                x.stage(i);
                x.add(5 - i);
            }
            x.survey(5, 0, 100);
            Due.is("21: one act a stage, from " + from, x.redo(from), 6 - from);
            for (int i = from; i < 6; i++) {
                Due.none("21: it is not added, from " + from, x.of(5 - i, 2));
                Due.yes("21: it may be added again, from " + from, x.add(5 - i));
            }
            for (int i = 1; i < 6; i++) {
                Due.is("21: offsets of parts that were added there are 0, others stay, from " + from + ": part " + (5 - i),
                        x.of(5 - i, 2), i >= from ? 0 : (100 - 5 * i) * 1000000000L);
            }
        }
    }

    private static void redoMakesRoom() {
        StageSteps x = new StageSteps(3);
        Bridges.acts(x, 40);
        Due.no("21: no room", x.add(1));
        Due.is("21: acts that went", x.redo(1), 20);
        for (int k = 0; k < 20; k++) {
            Due.yes("21: room for act " + (20 + k), x.load(0, 1));
        }
        Due.no("21: no room again", x.load(0, 1));
        Due.is("21: 40 acts", x.told(1), 40);
    }
}
