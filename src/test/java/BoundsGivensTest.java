/** The bounds that promises 1 to 7 name, each sentence by itself. */
public final class BoundsGivensTest {
    private static final int MIN = Integer.MIN_VALUE;
    private static final int MAX = Integer.MAX_VALUE;

    private BoundsGivensTest() {
    }

    public static void main(String[] args) {
        fewerParts();
        asManyParts();
        moreParts();
        allAreZero();
        noneIsThere();
        mostIsFive();
        part();
        weight();
        wanted();
        flexState();
        flexParts();
        flexNumber();
        share();
        release();
        creepAge();
        creepNumber();
        creepNotLess();
        creepAgeAbove();
        eightCreeps();
        afterNoSuchParts();
        afterTheSame();
        afterInACircle();
        afterOverOthers();
        afterAndNotA();
        afterABehindB();
        Due.finish("BoundsGivensTest");
    }

    private static void fewerParts() {
        for (int told : new int[] {MIN, -1, 0, 1}) {
            Bound.of(1, "p is 2 when parts is less: " + told, told, Bridges::empty)
                .takes("part", 0, 7, 7).takes("part", 1, 7, 7).refuses("part", 2, 7, 7);
        }
    }

    private static void asManyParts() {
        for (int told = 2; told <= 6; told++) {
            Bound.of(1, "p is parts: " + told, told, Bridges::empty)
                .takes("part", told - 1, 7, 7).refuses("part", told, 7, 7);
        }
    }

    private static void moreParts() {
        for (int told : new int[] {7, 8, 1000, MAX}) {
            Bound.of(1, "p is 6 when parts is more: " + told, told, Bridges::empty)
                .takes("part", 5, 7, 7).refuses("part", 6, 7, 7).refuses("part", 7, 7, 7);
        }
    }

    private static void allAreZero() {
        Bound flexible = Bound.of(1, "all weights, wanted levels are 0", 2, BoundsGivensTest::flexible);
        Bound zero = Bound.of(1, "all flexes, shares are 0", 2, Bridges::empty);
        Bound carrying = Bound.of(1, "all releases are 0", 2, BoundsGivensTest::flexible);
        for (int i = 0; i < 2; i++) {
            flexible.tells(1, "part", i, 0, 0).takes("part", i, 1, 0).takes("part", i, 0, 1).takes("part", i, 0, -1);
            for (int state = 0; state < 8; state++) {
                zero.tells(1, "flex", state, i, 0, 0).tells(1, "flex", state, i, 1, 0);
                zero.takes("flex", state, i, 0, -1).takes("flex", state, i, 1, -1);
            }
            for (int k = 0; k < 3; k++) {
                zero.tells(1, "share", k, i, 0).takes("share", k, i, 1).takes("share", k, i, -1);
                carrying.tells(1, "release", k, i, 0).takes("release", k, i, 1).takes("release", k, i, -1);
            }
        }
    }

    /** A weight, and a release, of 0 shows where there is a flex, and a share. */
    private static void flexible(StageSteps x) {
        for (int i = 0; i < 2; i++) {
            x.flex(0, i, i, 3);
            for (int k = 0; k < 3; k++) {
                x.share(k, i, 100 * k + 10);
            }
        }
    }

    private static void noneIsThere() {
        Bound.of(1, "no creep, stages, rules; supports off", 3, Bridges::empty)
            .takes("creep", 0, 0).takes("creep", 0, 1).tells(0, "told", 0).tells(0, "told", 1).tells(0, "told", 2)
            .tells(0, "told", 3).tells(0, "told", 4).refuses("told", 5).tells(1, "check").refuses("broken", 0)
            .refuses("order", 0).refuses("level", 0, 0).refuses("carries", 0, 0);
        Bound.of(1, "supports off", 3, x -> x.stage(0))
            .refuses("support", 0, 0).refuses("support", 1, 0).refuses("support", 2, 0)
            .takes("support", 0, 1).takes("support", 1, 1).takes("support", 2, 1);
    }

    private static void mostIsFive() {
        Bound.of(1, "MOST is 5", 3, Bridges::empty).tells(1, "most", 5).takes("most", 4).takes("most", 6);
    }

    private static void part() {
        Bound.of(2, "a part's number is 0 .. p - 1", 4, Bridges::busy)
            .refuses("part", MIN, 500, 500).refuses("part", -1, 500, 500).takes("part", 0, 500, 500)
            .takes("part", 3, 500, 500).refuses("part", 4, 500, 500).refuses("part", MAX, 500, 500);
    }

    private static void weight() {
        Bound.of(2, "weight 0 .. 1000 tonnes", 4, Bridges::busy)
            .refuses("part", 1, MIN, 500).refuses("part", 1, -1, 500).takes("part", 1, 0, 100).takes("part", 1, 1000, 100)
            .refuses("part", 1, 1001, 500).refuses("part", 1, MAX, 500);
    }

    private static void wanted() {
        Bound.of(2, "wanted -100000 .. 100000 mm", 4, Bridges::busy)
            .refuses("part", 1, 500, MIN).refuses("part", 1, 500, -100001).takes("part", 1, 11, -100000)
            .takes("part", 1, 11, 100000).refuses("part", 1, 500, 100001).refuses("part", 1, 500, MAX);
        StageSteps x = new StageSteps(2);
        x.stage(0);
        x.add(0);
        x.part(0, 0, -100000);
        Due.is("2: wanted at the least level", x.level(0, 0), -100000000000000L);
        x.part(0, 0, 100000);
        Due.is("2: wanted at the greatest level", x.level(0, 0), 100000000000000L);
    }

    private static void flexState() {
        Bound.of(3, "a state is 0 .. 7", 4, Bridges::busy)
            .refuses("flex", MIN, 1, 1, 99).refuses("flex", -1, 1, 1, 99).takes("flex", 0, 1, 1, 99)
            .takes("flex", 7, 1, 1, 99).refuses("flex", 8, 1, 1, 99).refuses("flex", MAX, 1, 1, 99);
    }

    private static void flexParts() {
        Bound.of(3, "i and j are parts, 0 .. p - 1", 4, Bridges::busy)
            .refuses("flex", 0, MIN, 1, 99).refuses("flex", 0, -1, 1, 99).takes("flex", 0, 0, 1, 99)
            .takes("flex", 0, 3, 1, 99).refuses("flex", 0, 4, 1, 99).refuses("flex", 0, MAX, 1, 99)
            .refuses("flex", 0, 1, MIN, 99).refuses("flex", 0, 1, -1, 99).takes("flex", 0, 1, 0, 99)
            .takes("flex", 0, 1, 3, 99).refuses("flex", 0, 1, 4, 99).refuses("flex", 0, 1, MAX, 99);
    }

    private static void flexNumber() {
        Bound.of(3, "FLEX is -1000 .. 1000", 4, Bridges::busy)
            .refuses("flex", 0, 1, 1, MIN).refuses("flex", 0, 1, 1, -1001).takes("flex", 0, 1, 1, -1000)
            .takes("flex", 0, 1, 1, 1000).refuses("flex", 0, 1, 1, 1001).refuses("flex", 0, 1, 1, MAX);
    }

    private static void share() {
        Bound.of(4, "a support is 0 .. 2", 4, Bridges::busy)
            .refuses("share", MIN, 1, 99).refuses("share", -1, 1, 99).takes("share", 0, 1, 99)
            .takes("share", 2, 1, 99).refuses("share", 3, 1, 99).refuses("share", MAX, 1, 99);
        Bound.of(4, "a part is 0 .. p - 1", 4, Bridges::busy)
            .refuses("share", 2, MIN, 99).refuses("share", 2, -1, 99).takes("share", 2, 0, 99)
            .takes("share", 2, 3, 99).refuses("share", 2, 4, 99).refuses("share", 2, MAX, 99);
        Bound.of(4, "SHARE is -1000 .. 1000", 4, Bridges::busy)
            .refuses("share", 2, 1, MIN).refuses("share", 2, 1, -1001).takes("share", 2, 1, -1000)
            .takes("share", 2, 1, 1000).refuses("share", 2, 1, 1001).refuses("share", 2, 1, MAX);
    }

    /** Support 1 carries something of each load, so that what it is released by shows. */
    private static void carrying(StageSteps x) {
        Bridges.busy(x);
        x.share(1, 0, 17);
        x.share(1, 3, 19);
    }

    private static void release() {
        Bound.of(5, "a support is 0 .. 2", 4, BoundsGivensTest::carrying)
            .refuses("release", MIN, 1, 99).refuses("release", -1, 1, 99).takes("release", 0, 1, 99)
            .takes("release", 1, 1, 99).takes("release", 2, 1, 99).refuses("release", 3, 1, 99)
            .refuses("release", MAX, 1, 99);
        Bound.of(5, "a part is 0 .. p - 1", 4, BoundsGivensTest::carrying)
            .refuses("release", 0, MIN, 99).refuses("release", 0, -1, 99).takes("release", 0, 0, 99)
            .takes("release", 0, 3, 99).refuses("release", 0, 4, 99).refuses("release", 0, MAX, 99);
        Bound.of(5, "RELEASE is -1000 .. 1000", 4, BoundsGivensTest::carrying)
            .refuses("release", 0, 1, MIN).refuses("release", 0, 1, -1001).takes("release", 0, 1, -1000)
            .takes("release", 0, 1, 1000).refuses("release", 0, 1, 1001).refuses("release", 0, 1, MAX);
    }

    private static void creepAge() {
        Bound.of(6, "from an age on, 0 .. 20000", 4, Bridges::empty)
            .refuses("creep", MIN, 50).refuses("creep", -1, 50).takes("creep", 0, 50).takes("creep", 1, 50)
            .takes("creep", 20000, 50).refuses("creep", 20001, 50).refuses("creep", MAX, 50);
    }

    private static void creepNumber() {
        Bound.of(6, "0 .. 5000", 4, Bridges::empty)
            .refuses("creep", 10, MIN).refuses("creep", 10, -1).takes("creep", 10, 0).takes("creep", 10, 5000)
            .refuses("creep", 10, 5001).refuses("creep", 10, MAX);
    }

    private static void creepNotLess() {
        Bound.of(6, "not less than what was told before", 4, Bridges::busy)
            .refuses("creep", 10, 0).refuses("creep", 10, 69).takes("creep", 10, 70).takes("creep", 10, 71);
        Bound.of(6, "not less than what was told before", 4, x -> x.creep(1, 5000))
            .refuses("creep", 2, 4999).takes("creep", 2, 5000).refuses("creep", 2, 5001);
    }

    private static void creepAgeAbove() {
        Bound.of(6, "an age not above the one told before", 4, Bridges::busy)
            .refuses("creep", 0, 90).refuses("creep", 3, 90).refuses("creep", 4, 90).refuses("creep", 8, 90)
            .refuses("creep", 9, 90).takes("creep", 10, 90);
        Bound.of(6, "an age not above the one told before", 4, x -> x.creep(20000, 1))
            .refuses("creep", 19999, 2).refuses("creep", 20000, 2).refuses("creep", 20001, 2);
    }

    private static void creeps(StageSteps x, int count) {
        for (int k = 0; k < count; k++) {
            x.creep(k + 3, 10 * k);
        }
    }

    private static void eightCreeps() {
        Bound.of(6, "or there are 8: the eighth", 4, x -> creeps(x, 7)).takes("creep", 20, 100);
        Bound.of(6, "or there are 8: the ninth", 4, x -> creeps(x, 8)).refuses("creep", 20, 100)
            .refuses("creep", 20000, 5000);
    }

    private static void afterNoSuchParts() {
        Bound.of(7, "there are no such parts", 4, Bridges::empty)
            .refuses("after", MIN, 1).refuses("after", -1, 1).takes("after", 0, 1).takes("after", 3, 1)
            .refuses("after", 4, 1).refuses("after", MAX, 1)
            .refuses("after", 1, MIN).refuses("after", 1, -1).takes("after", 1, 0).takes("after", 1, 3)
            .refuses("after", 1, 4).refuses("after", 1, MAX).refuses("after", -1, -1).refuses("after", 4, 4);
        Bound.of(7, "there are no such parts, of 2", 2, Bridges::empty)
            .takes("after", 0, 1).takes("after", 1, 0).refuses("after", 0, 2).refuses("after", 2, 0);
    }

    private static void afterTheSame() {
        Bound same = Bound.of(7, "or they are the same", 4, Bridges::empty);
        for (int part = 0; part < 4; part++) {
            same.refuses("after", part, part);
        }
        Bound.of(7, "or they are the same, in the plan", 4, Bridges::busy).refuses("after", 1, 1).refuses("after", 2, 2);
    }

    private static void afterInACircle() {
        Bound.of(7, "a must come after b", 4, x -> x.after(2, 0))
            .refuses("after", 0, 2).tells(1, "after", 2, 0).takes("after", 2, 1).takes("after", 1, 2);
    }

    private static void afterOverOthers() {
        Bound.of(7, "a must (over others, too) come after b", 6, BoundsGivensTest::chain)
            .refuses("after", 0, 4).refuses("after", 2, 4).refuses("after", 5, 4).refuses("after", 0, 1)
            .refuses("after", 0, 2).refuses("after", 5, 1).refuses("after", 5, 2).takes("after", 0, 5)
            .takes("after", 5, 0).takes("after", 0, 3).takes("after", 3, 4);
        StageSteps x = new StageSteps(6);
        chain(x);
        x.after(0, 5);
        Due.no("7: over all of them: after(5, 4)", x.after(5, 4));
        x.after(3, 4);
        Due.no("7: 0 must come after 3 over others, told last", x.after(0, 3));
        Due.no("7: 5 must come after 3 over others, told last", x.after(5, 3));
        Due.yes("7: so over others already", x.after(3, 5));
    }

    /** 4 before 1 before 2 before 0 and before 5, told from the middle on. */
    private static void chain(StageSteps x) {
        x.after(1, 2);
        x.after(2, 0);
        x.after(4, 1);
        x.after(2, 5);
    }

    private static void afterAndNotA() {
        Bound.of(7, "the plan has b, and not a", 4, Bridges::busy)
            .refuses("after", 2, 0).refuses("after", 2, 1).refuses("after", 2, 3);
        Bound.of(7, "the plan has a, and not b", 4, Bridges::busy)
            .takes("after", 0, 2).takes("after", 1, 2).takes("after", 3, 2);
    }

    private static void afterABehindB() {
        Bound.of(7, "or a behind b", 4, Bridges::busy)
            .refuses("after", 0, 1).refuses("after", 0, 3).refuses("after", 3, 1)
            .takes("after", 1, 0).takes("after", 3, 0).tells(1, "after", 1, 3);
        Bound.of(7, "or a behind b, in one stage", 3, BoundsGivensTest::oneStage)
            .refuses("after", 0, 2).takes("after", 2, 0);
    }

    private static void oneStage(StageSteps x) {
        x.stage(4);
        x.add(2);
        x.add(0);
    }
}
