/** Objects that tests begin with. */
final class Bridges {
    private Bridges() {
    }

    /** Nothing told at all. */
    static void empty(StageSteps x) {
    }

    /**
     * For 4 parts: 1 in stage 0 (day 2), 3 in stage 1 (day 8), 0 in stage 2 (day 13), 2 not; 3 must come after 1;
     * support 2 is on at the end; 8 acts; the end day is 60; creep up to 9 days, 70; two rules.
     */
    static void busy(StageSteps x) {
        givens(x);
        plan(x);
        x.survey(1, 0, 130);
        x.most(7);
        x.rule(0, 1, 0, 99);
        x.rule(1, 0, -5, 5);
        x.best();
    }

    /** Weights, wanted levels, flexes, shares, releases and creep for 4 parts. */
    static void givens(StageSteps x) {
        for (int i = 0; i < 4; i++) {
            x.part(i, 10 + i, 100 * i);
            for (int j = 0; j < 4; j++) {
                x.flex(0, i, j, i - 3 * j + 1);
                x.flex(5, i, j, 2 * i - j + 1);
            }
            x.share(0, i, 300 + i);
            x.share(2, i, 200 - i);
            x.release(0, i, 3 + i);
        }
        x.creep(3, 20);
        x.creep(9, 70);
    }

    static void plan(StageSteps x) {
        x.after(1, 3);
        x.stage(2);
        x.add(1);
        x.load(1, 30);
        x.support(0, true);
        x.support(2, true);
        x.stage(8);
        x.add(3);
        x.load(3, -5);
        x.stage(13);
        x.support(0, false);
        x.add(0);
        x.end(60);
    }

    /** Stages on days 1, 2, .. , so many. */
    static void stages(StageSteps x, int count) {
        for (int k = 1; k <= count; k++) {
            x.stage(k);
        }
    }

    /** For 3 parts: part 0 is there, in two stages, with so many acts in all. */
    static void acts(StageSteps x, int count) {
        x.flex(0, 0, 0, 1);
        x.stage(1);
        x.add(0);
        for (int k = 1; k < count; k++) {
            if (k == count / 2) {
                x.stage(2);
            }
            x.load(0, k);
        }
    }
}
