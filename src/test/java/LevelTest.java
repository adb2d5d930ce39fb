/** Promises 13 to 19 and 25: levels, casts, what supports carry, surveys, rules, the check. */
public final class LevelTest {
    private static final int MIN = Integer.MIN_VALUE;
    private static final int MAX = Integer.MAX_VALUE;

    private LevelTest() {
    }

    public static void main(String[] args) {
        level();
        partAddedBehindAnEvent();
        partAddedBehindAnEventOfItsDay();
        releaseForPartsAddedBehind();
        of();
        carries();
        carriesAddedWeights();
        survey();
        surveyBelow();
        surveyOfAnOffsetPart();
        surveyRefused();
        most();
        rule();
        ruleLimits();
        brokenLevel();
        brokenStep();
        brokenSupport();
        brokenFirst();
        check();
        Due.finish("LevelTest");
    }

    /** Part 0 of 10 tonnes on day 10, 20 tonnes on it on day 20; creep 100 from 5 days on, 300 from 15. */
    private static StageSteps small() {
        StageSteps x = new StageSteps(3);
        x.part(0, 10, 50);
        x.flex(0, 0, 0, -2);
        x.flex(0, 1, 0, 3);
        x.creep(5, 100);
        x.creep(15, 300);
        x.stage(10);
        x.add(0);
        x.stage(20);
        x.load(0, 20);
        x.stage(26);
        x.add(1);
        return x;
    }

    private static void level() {
        StageSteps x = small();
        // to day 26: -20 * 1.3 - 40 * 1.1 thousandths of a millimetre
        Due.is("14: rise", x.of(0, 3), -70000000L);
        Due.is("14: camber", x.of(0, 1), 70000000L);
        Due.is("14: cast", x.of(0, 0), 50070000000L);
        Due.is("13: on day 10: -20", x.level(0, 0), 50050000000L);
        Due.is("13: on day 20: -20 * 1.1 - 40", x.level(0, 1), 50008000000L);
        Due.is("13: on day 26", x.level(0, 2), 50000000000L);
        Due.none("13: not there yet", x.level(1, 0));
        Due.none("13: not there yet", x.level(1, 1));
        Due.none("13: never added", x.level(2, 2));
        int[][] wrong = {{-1, 0}, {3, 0}, {MIN, 0}, {MAX, 0}, {0, -1}, {0, 3}, {0, MIN}, {0, MAX}, {0, 12}};
        for (int[] w : wrong) {
            Due.none("13: level(" + w[0] + ", " + w[1] + ")", x.level(w[0], w[1]));
        }
        x.end(1000);
        // to day 1000: -20 * 1.3 - 40 * 1.3
        Due.is("13: the camber is to the end day", x.level(0, 2), 50008000000L);
    }

    private static void partAddedBehindAnEvent() {
        StageSteps x = small();
        Due.is("14: no creep since it was added", x.of(1, 3), 0);
        x.end(35);
        // by the load of day 20, 60 * (0.3 - 0.1); by that of day 10, 30 * (0.3 - 0.3)
        Due.is("14: creep since it was added", x.of(1, 3), 12000000L);
        Due.is("13: it starts as it was cast", x.level(1, 2), -12000000L);
        x.shift(2, -5);
        // added on day 21: 30 * (0.3 - 0.1) + 60 * (0.3 - 0)
        Due.is("14: added earlier, it creeps more", x.of(1, 3), 24000000L);
    }

    private static void partAddedBehindAnEventOfItsDay() {
        StageSteps x = new StageSteps(2);
        x.flex(0, 1, 0, 7);
        x.creep(0, 100);
        x.creep(1, 400);
        x.stage(3);
        x.add(0);
        x.load(0, 1);
        x.add(1);
        Due.is("14: behind the event, on its day", x.of(1, 3), 0);
        x.end(4);
        Due.is("14: 7 * (0.4 - 0.1)", x.of(1, 3), 2100000L);
        x.load(0, 1);
        Due.is("14: and 7 * 1.4", x.of(1, 3), 11900000L);
        x.part(1, 1, 0);
        x.flex(0, 1, 1, 1000);
        Due.is("14: and its own weight's 1000 * 1.4", x.of(1, 3), 1411900000L);
    }

    private static void releaseForPartsAddedBehind() {
        StageSteps x = new StageSteps(3);
        x.share(0, 0, 125);
        x.release(0, 0, 8);
        x.release(0, 1, 16);
        x.release(0, 2, 24);
        x.creep(0, 3);
        x.creep(30, 1003);
        x.stage(0);
        x.support(0, true);
        x.add(0);
        x.load(0, 5);
        x.stage(10);
        x.add(1);
        x.support(0, false);
        x.stage(20);
        x.add(2);
        x.stage(40);
        // it carried 625 thousandths of a tonne
        Due.is("14: there at the event", x.of(0, 3), 625L * 8 * 2003);
        Due.is("14: there at the event, of the same stage", x.of(1, 3), 625L * 16 * 2003);
        Due.is("14: added behind the event", x.of(2, 3), 625L * 24 * 1000);
        Due.is("13: before the event", x.level(0, 0), -625L * 8 * 2003);
        Due.is("13: on its day", x.level(0, 1), -625L * 8 * 1000);
        Due.is("13: when it was added", x.level(2, 2), -625L * 24 * 1000);
    }

    private static void of() {
        StageSteps x = small();
        x.survey(0, 0, 60);
        long[] due = {50070000000L, 70000000L, 0, -70000000L, 0};
        for (int what = 0; what < due.length; what++) {
            Due.is("14: of(0, " + what + ")", x.of(0, what), due[what]);
        }
        Due.is("14: offset of 1", x.of(1, 2), 4950000000L);
        Due.is("14: its cast", x.of(1, 0), 4950000000L);
        Due.is("14: its stage", x.of(1, 4), 2);
        int[][] wrong = {{0, -1}, {0, 5}, {0, MIN}, {0, MAX}, {-1, 0}, {3, 0}, {MIN, 0}, {MAX, 0}};
        for (int[] w : wrong) {
            Due.none("14: of(" + w[0] + ", " + w[1] + ")", x.of(w[0], w[1]));
        }
        for (int what = -1; what <= 5; what++) {
            Due.none("14: a part that is not added, of(2, " + what + ")", x.of(2, what));
        }
    }

    private static void carries() {
        StageSteps x = new StageSteps(2);
        x.share(0, 0, 300);
        x.share(1, 0, -50);
        x.stage(0);
        x.add(0);
        x.load(0, 9);
        x.support(0, true);
        x.load(0, 10);
        x.stage(1);
        x.support(1, true);
        x.load(0, -4);
        x.stage(2);
        x.support(0, false);
        x.load(0, 100);
        x.stage(3);
        x.support(0, true);
        x.load(0, 1);
        long[] first = {3000, 1800, 0, 300};
        long[] second = {0, 200, -4800, -4850};
        for (int stage = 0; stage < 4; stage++) {
            Due.is("15: carries(0, " + stage + ")", x.carries(0, stage), first[stage]);
            Due.is("15: carries(1, " + stage + ")", x.carries(1, stage), second[stage]);
            Due.is("15: carries(2, " + stage + ")", x.carries(2, stage), 0);
        }
        int[][] wrong = {{-1, 0}, {3, 0}, {MIN, 0}, {MAX, 0}, {0, -1}, {0, 4}, {0, MIN}, {0, MAX}};
        for (int[] w : wrong) {
            Due.none("15: carries(" + w[0] + ", " + w[1] + ")", x.carries(w[0], w[1]));
        }
    }

    private static void carriesAddedWeights() {
        StageSteps x = new StageSteps(2);
        x.part(1, 1000, 0);
        x.share(2, 1, 1000);
        x.stage(0);
        x.support(2, true);
        x.add(1);
        Due.is("15: an added part's weight is a load", x.carries(2, 0), 1000000);
        x.part(1, 1, 0);
        Due.is("15: as it is told", x.carries(2, 0), 1000);
    }

    /** Part 5 in the first stage, then 3 and 0 in one, 4 and 1. */
    private static StageSteps row() {
        StageSteps x = new StageSteps(6);
        x.part(5, 0, 10);
        x.stage(1);
        x.add(5);
        x.stage(2);
        x.add(3);
        x.add(0);
        x.stage(3);
        x.add(4);
        x.stage(4);
        x.add(1);
        return x;
    }

    private static void offsets(String what, StageSteps x, long... due) {
        int[] parts = {5, 3, 0, 4, 1};
        for (int k = 0; k < parts.length; k++) {
            Due.is(what + ", offset of " + parts[k], x.of(parts[k], 2), due[k] * 1000000000L);
        }
    }

    private static void survey() {
        StageSteps x = row();
        Due.is("16: survey(5, 0, 23)", x.survey(5, 0, 23), 13000000000L);
        offsets("16: error 13", x, 0, 8, 3, 0, 0);
        Due.is("16: the surveyed one stays", x.level(5, 0), 10000000000L);
        Due.is("16: levels have the offsets", x.level(3, 2), 8000000000L);
        Due.is("16: the error is from the plan", x.survey(5, 1, 33), 23000000000L);
        offsets("16: from a later stage on", x, 0, 8, 3, 18, 13);
        Due.is("16: instead of their own", x.survey(5, 2, 16), 6000000000L);
        offsets("16: for the last one alone", x, 0, 8, 3, 18, 1);
        Due.is("16: at the end of the last stage", x.survey(5, 3, 500), 490000000000L);
        offsets("16: none is later", x, 0, 8, 3, 18, 1);
        Due.is("16: no error", x.survey(5, 0, 10), 0);
        offsets("16: no error", x, 0, 0, 0, 0, 0);
    }

    private static void surveyBelow() {
        StageSteps x = row();
        Due.is("16: survey(5, 0, -2)", x.survey(5, 0, -2), -12000000000L);
        offsets("16: error -12", x, 0, -7, -2, 0, 0);
        Due.is("16: the least level", x.survey(5, 0, -1000000), -1000010000000000L);
        offsets("16: the least level", x, 0, -1000005, -1000000, -999995, -999990);
        Due.is("16: the greatest level", x.survey(5, 0, 1000000), 999990000000000L);
        offsets("16: the greatest level", x, 0, 999985, 999980, 999975, 999970);
    }

    private static void surveyOfAnOffsetPart() {
        StageSteps x = row();
        x.survey(5, 0, 50);
        offsets("16: error 40", x, 0, 35, 30, 25, 20);
        Due.is("16: where the plan has it", x.survey(3, 1, 35), 0);
        offsets("16: no error", x, 0, 35, 30, 0, 0);
        Due.is("16: below the plan", x.survey(0, 1, 0), -30000000000L);
        offsets("16: error -30", x, 0, 35, 30, -25, -20);
    }

    private static void surveyRefused() {
        StageSteps x = row();
        x.survey(5, 0, 50);
        int[][] wrong = {{-1, 0, 9}, {6, 0, 9}, {MIN, 0, 9}, {MAX, 0, 9}, {2, 3, 9}, {3, 0, 9}, {1, 2, 9}, {5, -1, 9},
            {5, 4, 9}, {5, MIN, 9}, {5, MAX, 9}, {5, 0, -1000001}, {5, 0, 1000001}, {5, 0, MIN}, {5, 0, MAX}};
        for (int[] w : wrong) {
            Due.none("16: survey(" + w[0] + ", " + w[1] + ", " + w[2] + ")", x.survey(w[0], w[1], w[2]));
        }
        offsets("16: nothing was done", x, 0, 35, 30, 25, 20);
    }

    private static void most() {
        StageSteps x = row();
        x.survey(5, 0, 50);
        Due.no("17: most(-1)", x.most(-1));
        Due.no("17: most(1001)", x.most(1001));
        Due.no("17: most(MIN)", x.most(MIN));
        Due.no("17: most(MAX)", x.most(MAX));
        x.survey(5, 0, 50);
        offsets("17: what is refused changes nothing", x, 0, 35, 30, 25, 20);
        Due.yes("17: most(0)", x.most(0));
        offsets("17: offsets stay", x, 0, 35, 30, 25, 20);
        x.survey(5, 0, 50);
        offsets("17: most(0)", x, 0, 40, 40, 40, 40);
        Due.yes("17: most(1000)", x.most(1000));
        x.survey(5, 0, 3510);
        offsets("17: most(1000)", x, 0, 2500, 1500, 500, 0);
    }

    private static void rule() {
        StageSteps x = new StageSteps(3);
        int[][] wrong = {{-1, 0, 0, 1}, {3, 0, 0, 1}, {MIN, 0, 0, 1}, {MAX, 0, 0, 1}, {0, -1, 0, 1}, {0, 3, 0, 1},
            {0, MIN, 0, 1}, {0, MAX, 0, 1}, {1, -1, 0, 1}, {1, 2, 0, 1}, {1, MIN, 0, 1}, {1, MAX, 0, 1}, {2, -1, 0, 1},
            {2, 3, 0, 1}, {2, MIN, 0, 1}, {2, MAX, 0, 1}, {0, 0, 1, 0}, {0, 0, MAX, MIN}};
        for (int[] w : wrong) {
            Due.none("18: rule(" + w[0] + ", " + w[1] + ", " + w[2] + ", " + w[3] + ")", x.rule(w[0], w[1], w[2], w[3]));
        }
        Due.is("18: nothing was done", x.told(4), 0);
        int[][] right = {{0, 0, 0, 0}, {0, 2, 0, 1}, {1, 0, 0, 1}, {1, 1, 0, 1}, {2, 0, 0, 1}, {2, 2, MIN, MAX},
            {0, 1, MIN, MIN}, {0, 1, MAX, MAX}};
        for (int k = 0; k < right.length; k++) {
            Due.is("18: rule number " + k, x.rule(right[k][0], right[k][1], right[k][2], right[k][3]), k);
        }
        Due.none("18: there are 8", x.rule(0, 0, 0, 1));
        Due.is("18: still 8", x.told(4), 8);
    }

    private static void ruleLimits() {
        StageSteps x = new StageSteps(2);
        x.stage(1);
        x.add(0);
        x.rule(0, 0, MIN, MAX);
        x.rule(2, 0, MIN, MAX);
        Due.none("19: the widest rules hold", x.broken(0));
        x.rule(0, 0, MIN, MIN);
        Due.is("19: below all", x.broken(1), 2);
        StageSteps y = new StageSteps(2);
        y.stage(1);
        y.add(0);
        y.rule(0, 0, MAX, MAX);
        Due.is("19: above all", y.broken(1), 0);
    }

    private static void broken(String what, StageSteps x, long stage, long number) {
        Due.is(what + ", stage", x.broken(0), stage);
        Due.is(what + ", rule", x.broken(1), number);
        Due.none(what + ", broken(2)", x.broken(2));
        Due.none(what + ", broken(-1)", x.broken(-1));
        Due.none(what + ", broken(MAX)", x.broken(MAX));
    }

    private static void brokenLevel() {
        StageSteps x = new StageSteps(2);
        x.rule(0, 1, -4, 6);
        broken("19: no stage", x, Due.NONE, Due.NONE);
        x.stage(1);
        x.part(1, 0, 100);
        broken("19: it is not there", x, Due.NONE, Due.NONE);
        x.stage(2);
        x.add(1);
        broken("19: above high", x, 1, 0);
        x.part(1, 0, 6);
        broken("19: just high", x, Due.NONE, Due.NONE);
        x.part(1, 0, 7);
        broken("19: above high", x, 1, 0);
        x.part(1, 0, -4);
        broken("19: just low", x, Due.NONE, Due.NONE);
        x.part(1, 0, -5);
        broken("19: below low", x, 1, 0);
        x.part(1, 0, 6);
        x.flex(0, 1, 1, 1);
        x.stage(3);
        x.load(1, -1);
        broken("19: above high by a thousandth, before the load", x, 1, 0);
        x.flex(0, 1, 1, -1);
        broken("19: below it", x, Due.NONE, Due.NONE);
    }

    private static void brokenStep() {
        StageSteps x = new StageSteps(3);
        x.part(0, 0, 30);
        x.part(1, 0, 10);
        x.part(2, 0, 13);
        x.rule(1, 0, 0, 5);
        x.rule(1, 1, -3, 3);
        x.stage(1);
        x.add(0);
        x.stage(2);
        broken("19: the next is not there", x, Due.NONE, Due.NONE);
        x.stage(3);
        x.add(2);
        broken("19: it is not there", x, Due.NONE, Due.NONE);
        x.stage(4);
        x.add(1);
        broken("19: 20 more than the next", x, 3, 0);
        x.part(0, 0, 15);
        broken("19: just high, just low", x, Due.NONE, Due.NONE);
        x.part(0, 0, 9);
        broken("19: less than the next", x, 3, 0);
        x.part(0, 0, 10);
        x.part(2, 0, 14);
        broken("19: 4 less than the next", x, 3, 1);
    }

    private static void brokenSupport() {
        StageSteps x = new StageSteps(2);
        x.share(1, 0, 1);
        x.rule(2, 1, 0, 2);
        x.stage(1);
        x.add(0);
        x.support(1, true);
        x.load(0, 1000);
        x.stage(2);
        x.load(0, 1000);
        broken("19: just high", x, Due.NONE, Due.NONE);
        x.stage(3);
        x.load(0, 1);
        broken("19: a thousandth of a tonne more", x, 2, 0);
        x.load(0, -1);
        broken("19: the stage's end counts", x, Due.NONE, Due.NONE);
        x.stage(4);
        x.load(0, -1000);
        x.load(0, -1000);
        broken("19: just low", x, Due.NONE, Due.NONE);
        x.load(0, -1);
        broken("19: a thousandth of a tonne less", x, 3, 0);
        x.support(1, false);
        broken("19: it carries nothing then", x, Due.NONE, Due.NONE);
        x.rule(2, 1, 1, 2);
        broken("19: what is off carries 0", x, 3, 1);
    }

    private static void brokenFirst() {
        StageSteps x = new StageSteps(2);
        x.part(0, 0, 9);
        x.part(1, 0, 9);
        x.rule(2, 2, 0, 0);
        x.rule(0, 1, 0, 8);
        x.rule(0, 0, 0, 8);
        x.rule(0, 0, 0, 7);
        x.stage(1);
        x.stage(2);
        x.add(0);
        x.stage(3);
        x.add(1);
        broken("19: the first stage, not the least number", x, 1, 2);
        x.part(0, 0, 8);
        broken("19: another rule of it", x, 1, 3);
        x.part(0, 0, 7);
        broken("19: a later stage", x, 2, 1);
        x.part(1, 0, 8);
        broken("19: all hold", x, Due.NONE, Due.NONE);
    }

    private static void check() {
        StageSteps x = small();
        Due.is("25: check", x.check(), 1);
        x.survey(0, 0, 1000);
        Due.is("25: with an offset", x.check(), 1);
        x.end(30000);
        Due.is("25: with an end day", x.check(), 1);
        Due.is("25: nothing", new StageSteps(2).check(), 1);
        // what it tells of: cast and rise to the end day give what is wanted, and the offset
        for (int part = 0; part < 2; part++) {
            Due.is("25: part " + part, x.of(part, 0) + x.of(part, 3), (part == 0 ? 50000000000L : 0) + x.of(part, 2));
        }
    }
}
