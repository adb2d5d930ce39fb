/** Promises 1 to 7: the new object, and what is told of parts, supports, creep and what comes after what. */
public final class GivensTest {
    private static final int MIN = Integer.MIN_VALUE;
    private static final int MAX = Integer.MAX_VALUE;

    private GivensTest() {
    }

    public static void main(String[] args) {
        newObject();
        howManyParts();
        part();
        partCountsForTheWholePlan();
        flex();
        flexOfTheStateAtThatTime();
        share();
        release();
        creep();
        creepByAge();
        creepLimits();
        after();
        afterOverOthers();
        afterAndThePlan();
        Due.finish("GivensTest");
    }

    private static void newObject() {
        StageSteps x = new StageSteps(6);
        for (int what = 0; what <= 4; what++) {
            Due.is("1: told(" + what + ") of a new object", x.told(what), 0);
        }
        Due.none("1: told(5) of a new object", x.told(5));
        Due.is("1: the first stage", x.stage(0), 0);
        for (int part = 0; part < 6; part++) {
            Due.yes("1: add(" + part + ")", x.add(part));
            Due.yes("1: load on " + part, x.load(part, 1000));
        }
        for (int k = 0; k < 3; k++) {
            Due.yes("1: a new object's support is off", x.support(k, true));
            Due.yes("1: load by the support", x.load(0, 7));
            Due.is("1: shares are 0", x.carries(k, 0), 0);
            Due.yes("1: taken off", x.support(k, false));
        }
        for (int part = 0; part < 6; part++) {
            Due.is("1: flexes, releases, wanted levels are 0", x.level(part, 0), 0);
            Due.is("1: no offset", x.of(part, 2), 0);
        }
        StageSteps y = new StageSteps(3);
        y.stage(1);
        y.add(0);
        y.stage(2);
        y.add(1);
        y.add(2);
        Due.is("1: survey", y.survey(0, 0, 8), 8000000000L);
        Due.is("1: MOST is 5", y.of(1, 2), 3000000000L);
        Due.is("1: twice MOST", y.of(2, 2), 0);
    }

    private static void howManyParts() {
        int[] told = {MIN, -1, 0, 1, 2, 3, 4, 5, 6, 7, 100, MAX};
        int[] due = {2, 2, 2, 2, 2, 3, 4, 5, 6, 6, 6, 6};
        for (int k = 0; k < told.length; k++) {
            StageSteps x = new StageSteps(told[k]);
            int count = 0;
            for (int part = 0; part < 8; part++) {
                count += x.part(part, 1, 1) ? 1 : 0;
            }
            Due.is("1: parts of StageSteps(" + told[k] + ")", count, due[k]);
        }
    }

    private static void part() {
        StageSteps x = new StageSteps(3);
        Due.yes("2: part(0, 0, -100000)", x.part(0, 0, -100000));
        Due.yes("2: part(2, 1000, 100000)", x.part(2, 1000, 100000));
        int[][] wrong = {{-1, 1, 1}, {3, 1, 1}, {MIN, 1, 1}, {MAX, 1, 1}, {2, -1, 1}, {2, 1001, 1}, {2, MIN, 1},
            {2, MAX, 1}, {2, 1, -100001}, {2, 1, 100001}, {2, 1, MIN}, {2, 1, MAX}};
        for (int[] w : wrong) {
            Due.no("2: part(" + w[0] + ", " + w[1] + ", " + w[2] + ")", x.part(w[0], w[1], w[2]));
        }
        x.flex(0, 2, 2, 1);
        x.stage(5);
        x.add(0);
        x.add(2);
        Due.is("2: wanted level of 0", x.level(0, 0), -100000000000000L);
        Due.is("2: wanted level of 2", x.level(2, 0), 100000000000000L);
        Due.is("2: weight of 2, less what was refused", x.of(2, 3), 1000000000L);
    }

    private static void partCountsForTheWholePlan() {
        StageSteps x = new StageSteps(2);
        x.stage(5);
        x.add(0);
        x.stage(9);
        x.flex(0, 0, 0, -3);
        x.part(0, 10, 20);
        Due.is("2: weight told after it was added", x.of(0, 3), -30000000L);
        Due.is("2: wanted told after it was added", x.of(0, 0), 20030000000L);
        x.part(0, 20, -1);
        Due.is("2: told again", x.of(0, 0), -940000000L);
    }

    private static void flex() {
        StageSteps x = new StageSteps(3);
        int[][] wrong = {{-1, 0, 0, 1}, {8, 0, 0, 1}, {MIN, 0, 0, 1}, {MAX, 0, 0, 1}, {0, -1, 0, 1}, {0, 3, 0, 1},
            {0, MAX, 0, 1}, {0, 0, -1, 1}, {0, 0, 3, 1}, {0, 0, MIN, 1}, {0, 0, 0, -1001}, {0, 0, 0, 1001},
            {0, 0, 0, MIN}, {0, 0, 0, MAX}};
        x.part(0, 1, 0);
        x.stage(1);
        x.add(0);
        for (int[] w : wrong) {
            Due.no("3: flex(" + w[0] + ", " + w[1] + ", " + w[2] + ", " + w[3] + ")", x.flex(w[0], w[1], w[2], w[3]));
            Due.is("3: what is refused changes nothing", x.of(0, 3), 0);
        }
        Due.yes("3: flex 1000", x.flex(0, 0, 0, 1000));
        Due.is("3: rise by flex 1000", x.of(0, 3), 1000000000L);
        Due.yes("3: flex -1000", x.flex(0, 0, 0, -1000));
        Due.is("3: rise by flex -1000", x.of(0, 3), -1000000000L);
        Due.yes("3: flex of others", x.flex(7, 2, 1, 5));
        Due.is("3: flex of others is not its own", x.of(0, 3), -1000000000L);
    }

    private static void flexOfTheStateAtThatTime() {
        StageSteps x = new StageSteps(2);
        for (int state = 0; state < 8; state++) {
            x.flex(state, 0, 1, 1 << state);
            x.flex(state, 1, 0, 500);
        }
        x.stage(1);
        x.add(0);
        x.add(1);
        long due = 0;
        for (int state = 0; state < 8; state++) {
            for (int k = 0; k < 3; k++) {
                x.support(k, (state >> k & 1) == 1);
            }
            x.load(1, state + 1);
            due += (state + 1L << state) * 1000000L;
            Due.is("3: rise of 0 by loads on 1 up to state " + state, x.of(0, 3), due);
            Due.is("3: rise of 1, no load on 0 having any weight", x.of(1, 3), 0);
        }
    }

    private static void share() {
        StageSteps x = new StageSteps(3);
        x.stage(1);
        x.add(0);
        x.add(2);
        x.load(2, 50);
        x.support(2, true);
        x.support(1, true);
        x.load(2, 3);
        x.load(0, 11);
        int[][] wrong = {{-1, 2, 1}, {3, 2, 1}, {MIN, 2, 1}, {MAX, 2, 1}, {2, -1, 1}, {2, 3, 1}, {2, MIN, 1}, {2, MAX, 1},
            {2, 2, -1001}, {2, 2, 1001}, {2, 2, MIN}, {2, 2, MAX}};
        for (int[] w : wrong) {
            Due.no("4: share(" + w[0] + ", " + w[1] + ", " + w[2] + ")", x.share(w[0], w[1], w[2]));
            Due.is("4: what is refused changes nothing", x.carries(2, 0), 0);
        }
        Due.yes("4: share 1000", x.share(2, 2, 1000));
        Due.is("4: carries of the loads while it is on", x.carries(2, 0), 3000);
        Due.yes("4: share -1000", x.share(2, 2, -1000));
        Due.is("4: told again", x.carries(2, 0), -3000);
        Due.yes("4: share for another part", x.share(2, 0, 7));
        Due.is("4: both parts' loads", x.carries(2, 0), -2923);
        Due.is("4: another support's share", x.carries(1, 0), 0);
    }

    private static void release() {
        StageSteps x = new StageSteps(3);
        x.share(1, 0, 250);
        x.stage(1);
        x.add(0);
        x.add(1);
        x.support(1, true);
        x.load(0, 3);
        x.stage(2);
        x.support(1, false);
        int[][] wrong = {{-1, 0, 1}, {3, 0, 1}, {MIN, 0, 1}, {MAX, 0, 1}, {1, -1, 1}, {1, 3, 1}, {1, MIN, 1}, {1, MAX, 1},
            {1, 0, -1001}, {1, 0, 1001}, {1, 0, MIN}, {1, 0, MAX}};
        for (int[] w : wrong) {
            Due.no("5: release(" + w[0] + ", " + w[1] + ", " + w[2] + ")", x.release(w[0], w[1], w[2]));
            Due.is("5: what is refused changes nothing", x.of(0, 3), 0);
        }
        Due.yes("5: release 1000", x.release(1, 0, 1000));
        Due.is("5: 0.75 tonnes times 1 mm", x.of(0, 3), 750000000L);
        Due.is("5: not before it is taken off", x.level(0, 0), -750000000L);
        Due.yes("5: release -1000", x.release(1, 0, -1000));
        Due.is("5: told again", x.of(0, 3), -750000000L);
        Due.is("5: another part", x.of(1, 3), 0);
        Due.yes("5: release for another part", x.release(1, 1, 3));
        Due.is("5: another part's own", x.of(1, 3), 2250000L);
    }

    private static void creep() {
        StageSteps x = new StageSteps(2);
        x.part(0, 1, 0);
        x.flex(0, 0, 0, 1);
        x.stage(0);
        x.add(0);
        x.end(40000);
        int[][] wrong = {{-1, 1}, {20001, 1}, {MIN, 1}, {MAX, 1}, {0, -1}, {0, 5001}, {0, MIN}, {0, MAX}};
        for (int[] w : wrong) {
            Due.no("6: creep(" + w[0] + ", " + w[1] + ")", x.creep(w[0], w[1]));
            Due.is("6: what is refused changes nothing", x.of(0, 3), 1000000L);
        }
        Due.yes("6: creep(0, 0)", x.creep(0, 0));
        Due.no("6: the age again", x.creep(0, 5));
        Due.yes("6: creep(10, 7)", x.creep(10, 7));
        Due.no("6: the age again", x.creep(10, 8));
        Due.no("6: a lower age", x.creep(9, 8));
        Due.no("6: less than before", x.creep(11, 6));
        Due.is("6: creep on the end day", x.of(0, 3), 1007000L);
        Due.yes("6: as much as before", x.creep(11, 7));
        Due.yes("6: creep(20000, 5000)", x.creep(20000, 5000));
        Due.is("6: the greatest age, the greatest creep", x.of(0, 3), 6000000L);
        Due.no("6: no age above", x.creep(20001, 5000));
    }

    private static void creepByAge() {
        StageSteps x = new StageSteps(2);
        x.part(0, 1, 0);
        x.flex(0, 0, 0, 1);
        x.creep(10, 5);
        x.creep(20, 80);
        x.stage(100);
        x.add(0);
        int[] ends = {100, 109, 110, 111, 119, 120, 20000};
        long[] due = {1000000L, 1000000L, 1005000L, 1005000L, 1005000L, 1080000L, 1080000L};
        for (int k = 0; k < ends.length; k++) {
            Due.yes("6: end(" + ends[k] + ")", x.end(ends[k]));
            Due.is("6: rise to day " + ends[k] + " by a load of day 100", x.of(0, 3), due[k]);
        }
    }

    private static void creepLimits() {
        StageSteps x = new StageSteps(2);
        for (int k = 0; k < 8; k++) {
            Due.yes("6: creep number " + k, x.creep(k, 10 * k));
        }
        Due.no("6: there are 8", x.creep(8, 90));
    }

    private static void after() {
        StageSteps x = new StageSteps(3);
        int[][] wrong = {{-1, 0}, {0, -1}, {3, 0}, {0, 3}, {MIN, 0}, {0, MAX}, {0, 0}, {2, 2}, {-1, -1}, {3, 3}};
        for (int[] w : wrong) {
            Due.no("7: after(" + w[0] + ", " + w[1] + ")", x.after(w[0], w[1]));
        }
        Due.yes("7: after(2, 0)", x.after(2, 0));
        Due.yes("7: after(2, 0) again", x.after(2, 0));
        Due.no("7: after(0, 2)", x.after(0, 2));
        x.stage(1);
        Due.no("7: 0 must come after 2", x.add(0));
        Due.yes("7: 1 need not", x.add(1));
        Due.yes("7: 2 need not", x.add(2));
        Due.yes("7: now 0 may come", x.add(0));
    }

    private static void afterOverOthers() {
        StageSteps x = new StageSteps(6);
        Due.yes("7: after(3, 4)", x.after(3, 4));
        Due.yes("7: after(1, 2)", x.after(1, 2));
        Due.yes("7: after(4, 5)", x.after(4, 5));
        Due.yes("7: after(2, 3)", x.after(2, 3));
        for (int b = 1; b <= 5; b++) {
            for (int a = b + 1; a <= 5; a++) {
                Due.no("7: after(" + a + ", " + b + ") over others", x.after(a, b));
            }
        }
        Due.yes("7: 0 is free still", x.after(5, 0));
        Due.no("7: 0 comes after all now", x.after(0, 1));
        Due.yes("7: what is so over others may be told", x.after(1, 0));
    }

    private static void afterAndThePlan() {
        StageSteps x = new StageSteps(4);
        x.stage(1);
        x.add(2);
        Due.no("7: the plan has b, and not a", x.after(0, 2));
        Due.yes("7: the plan has a, and not b", x.after(2, 0));
        x.add(1);
        Due.no("7: the plan has a behind b, in one stage", x.after(1, 2));
        Due.yes("7: the plan has b behind a", x.after(2, 1));
        x.stage(2);
        x.add(3);
        Due.no("7: the plan has a behind b", x.after(3, 1));
        x.redo(1);
        Due.no("7: the plan has a no more", x.after(3, 1));
        x.redo(0);
        Due.yes("7: the plan has neither any more", x.after(3, 1));
        x.stage(1);
        Due.no("7: what was told stays when stages go", x.add(0));
    }
}
