/** The bounds that the document's terms name, each sentence by itself, with the promises that it touches. */
public final class BoundsTermsTest {
    private static final int MIN = Integer.MIN_VALUE;
    private static final int MAX = Integer.MAX_VALUE;
    private static final long MM = 1000000000L;

    private BoundsTermsTest() {
    }

    public static void main(String[] args) {
        partsSupportsStates();
        fortyActsInAll();
        partsThatAreThere();
        stateAtThatTime();
        whileItIsOn();
        carriesNothingThen();
        puttingOnIsNoEvent();
        creepNotAboveTheAge();
        creepBelowTheLeastToldAge();
        creepOfGreatAges();
        addedBehindTheEvent();
        addedBehindAtCreepBounds();
        eventsUpToThatStage();
        endDay();
        exactly();
        towardsZero();
        towardsZeroBelow();
        towardsZeroByMost();
        towardsZeroByNothing();
        ruleBounds();
        allowedByLoads();
        allowedByAfter();
        bestOfSeveral();
        bestOfThePlansParts();
        asIfToldBefore();
        latterCounts();
        Due.finish("BoundsTermsTest");
    }

    private static void partsSupportsStates() {
        for (int p = 2; p <= 6; p++) {
            Bound.of(9, "PARTS are 0 .. p - 1, of " + p, p, x -> x.stage(0))
                .refuses("add", -1).takes("add", 0).takes("add", p - 1).refuses("add", p).refuses("add", 6);
            Bound.of(3, "PARTS are 0 .. p - 1, of " + p, p, Bridges::empty)
                .takes("flex", 7, p - 1, p - 1, 1).refuses("flex", 7, p, p - 1, 1).refuses("flex", 7, p - 1, p, 1)
                .refuses("flex", 8, p - 1, p - 1, 1).takes("after", 0, p - 1).refuses("after", 0, p);
            Bound.of(4, "SUPPORTS are 0 .. 2, of " + p + " parts", p, Bridges::empty)
                .takes("share", 2, p - 1, 1).refuses("share", 3, p - 1, 1).refuses("share", 2, p, 1)
                .refuses("release", 3, p - 1, 1).refuses("release", 2, p, 1);
        }
    }

    private static void fortyActsInAll() {
        String[] names = {"add", "load", "support"};
        int[][] acts = {{1}, {0, 9}, {2, 1}};
        for (int k = 0; k < names.length; k++) {
            StageSteps x = new StageSteps(3);
            Bridges.acts(x, 39);
            Due.is("9, 10, 11: at most 40 acts in all: " + names[k], Calls.on(x, names[k], acts[k]), 1);
            Due.is("24: 40 acts", x.told(1), 40);
            Due.no("9: a 41st act", x.add(2));
            Due.no("10: a 41st act", x.load(0, 1));
            Due.no("11: a 41st act", x.support(0, true));
            Due.is("8: a stage without acts has room", x.stage(20), 2);
            Due.no("10: in all, not in a stage", x.load(0, 1));
            Due.is("24: still 40 acts", x.told(1), 40);
        }
    }

    private static void partsThatAreThere() {
        StageSteps x = new StageSteps(3);
        for (int i = 0; i < 3; i++) {
            x.part(i, 10, 0);
            for (int j = 0; j < 3; j++) {
                x.flex(0, i, j, 100 * i + j + 1);
            }
        }
        x.stage(5);
        x.add(1);
        Due.is("14: for an added part: itself, too", x.of(1, 3), 1020000000L);
        x.add(2);
        Due.is("14: each part that is there", x.of(1, 3), 1020000000L + 1030000000L);
        Due.is("14: but not by what came before it", x.of(2, 3), 2030000000L);
        x.stage(6);
        x.add(0);
        Due.is("14: by its own weight alone", x.of(0, 3), 10000000L);
        x.load(0, -10);
        Due.is("14: and a load taken away", x.of(0, 3), 0);
    }

    private static void stateAtThatTime() {
        StageSteps x = new StageSteps(2);
        x.part(0, 1, 0);
        x.flex(0, 0, 0, 1);
        x.flex(4, 0, 0, 100);
        x.stage(0);
        x.support(2, true);
        x.add(0);
        Due.is("3: just behind the support that is put on", x.of(0, 3), 100000000L);
        x.support(2, false);
        x.load(0, 1);
        Due.is("3: just behind the support that is taken off", x.of(0, 3), 101000000L);
        x.load(0, 1);
        x.support(2, true);
        Due.is("3: just before the support that is put on", x.of(0, 3), 102000000L);
        x.load(0, 1);
        x.support(2, false);
        Due.is("3: just before the support that is taken off", x.of(0, 3), 202000000L);
    }

    private static void whileItIsOn() {
        StageSteps x = new StageSteps(2);
        x.share(1, 0, 500);
        x.stage(0);
        x.add(0);
        x.load(0, 2);
        x.support(1, true);
        Due.is("15: not of a load just before", x.carries(1, 0), 0);
        x.load(0, 4);
        Due.is("15: of a load just behind", x.carries(1, 0), 2000);
        x.stage(1);
        x.load(0, 8);
        Due.is("15: of all while it is on", x.carries(1, 1), 6000);
        x.stage(2);
        x.load(0, 16);
        x.support(1, false);
        x.load(0, 32);
        Due.is("15: it carries nothing then", x.carries(1, 2), 0);
        Due.is("15: the stage before stays", x.carries(1, 1), 6000);
        x.release(1, 0, 1);
        Due.is("5: of the load just before it is taken off, not of that behind", x.of(0, 3), 14000000L);
    }

    private static void carriesNothingThen() {
        StageSteps x = new StageSteps(2);
        x.share(0, 0, 1000);
        x.release(0, 0, 1);
        x.stage(0);
        x.add(0);
        x.support(0, true);
        x.load(0, 3);
        x.support(0, false);
        Due.is("5: by what it carried", x.of(0, 3), 3000000L);
        x.support(0, true);
        x.support(0, false);
        Due.is("5: put on and taken off without a load", x.of(0, 3), 3000000L);
        x.support(0, true);
        x.load(0, -3);
        x.stage(1);
        Due.is("15: it carries what came since", x.carries(0, 1), -3000);
        x.support(0, false);
        Due.is("5: by what it carried since", x.of(0, 3), 0);
    }

    private static void puttingOnIsNoEvent() {
        StageSteps x = new StageSteps(2);
        x.share(0, 0, 1000);
        x.release(0, 0, 1000);
        x.flex(1, 0, 0, 0);
        x.stage(0);
        x.add(0);
        x.load(0, 5);
        x.support(0, true);
        x.load(0, 5);
        Due.is("14: no part goes up when a support is put on, or is on", x.of(0, 3), 0);
        x.support(0, false);
        Due.is("14: but when it is taken off", x.of(0, 3), 5000000000L);
    }

    /** One tonne on day 100, in thousandths of a millimetre one: what is more than a million is creep. */
    private static StageSteps loaded() {
        StageSteps x = new StageSteps(2);
        x.flex(0, 0, 0, 1);
        x.stage(100);
        x.add(0);
        x.load(0, 1);
        return x;
    }

    private static void riseTo(String what, StageSteps x, int day, long creep) {
        Due.yes(what + ": end(" + day + ")", x.end(day));
        Due.is(what + ": creep to day " + day, x.of(0, 3), 1000000L + 1000L * creep);
    }

    private static void creepNotAboveTheAge() {
        StageSteps x = loaded();
        x.creep(0, 3);
        x.creep(10, 50);
        x.creep(11, 50);
        x.creep(12, 51);
        int[] ends = {100, 101, 109, 110, 111, 112, 113, 20000};
        int[] due = {3, 3, 3, 50, 50, 51, 51, 51};
        for (int k = 0; k < ends.length; k++) {
            riseTo("6: the greatest told day that is not above the age", x, ends[k], due[k]);
        }
    }

    private static void creepBelowTheLeastToldAge() {
        StageSteps none = loaded();
        riseTo("6: 0 if there is none: no creep is told", none, 100, 0);
        riseTo("6: 0 if there is none: no creep is told", none, 40000, 0);
        StageSteps x = loaded();
        x.creep(10, 50);
        riseTo("6: 0 if there is none: an age of 0", x, 100, 0);
        riseTo("6: 0 if there is none: an age of 9", x, 109, 0);
        riseTo("6: an age of 10", x, 110, 50);
        StageSteps last = loaded();
        last.creep(20000, 5000);
        riseTo("6: 0 if there is none: an age of 19999", last, 20099, 0);
        riseTo("6: an age of 20000", last, 20100, 5000);
    }

    private static void creepOfGreatAges() {
        StageSteps x = loaded();
        x.creep(19999, 7);
        x.creep(20000, 8);
        Due.yes("20: to day 0", x.shift(0, -100));
        riseTo("6: an age of 19999", x, 19999, 7);
        riseTo("6: an age of 20000", x, 20000, 8);
        riseTo("6: an age of 20001", x, 20001, 8);
        riseTo("6: an age of 40000", x, 40000, 8);
    }

    private static void addedBehindTheEvent() {
        StageSteps x = new StageSteps(3);
        x.flex(0, 1, 0, 1);
        x.flex(0, 2, 0, 1);
        x.creep(0, 100);
        x.creep(5, 300);
        x.stage(0);
        x.add(0);
        x.add(1);
        x.load(0, 1);
        x.add(2);
        Due.is("14: there just before the event: 1 and creep", x.of(1, 3), 1100000L);
        Due.is("14: added just behind it: creep of 0 less creep of 0", x.of(2, 3), 0);
        x.end(4);
        Due.is("14: no more creep yet", x.of(2, 3), 0);
        x.end(5);
        Due.is("14: there", x.of(1, 3), 1300000L);
        Due.is("14: behind", x.of(2, 3), 200000L);
        Due.is("13: it begins as it was cast", x.level(2, 0), x.of(2, 0));
        Due.is("13: there, it had gone up by then", x.level(1, 0), x.of(1, 0) + 1100000L);
    }

    /** Part 1 is added so many days behind the load; creep 20 from 10 days on, 50 from 20. */
    private static void addedBehindAtCreepBounds() {
        int[] days = {1, 9, 10, 11, 19, 20, 21};
        long[] due = {50, 50, 30, 30, 30, 0, 0};
        for (int k = 0; k < days.length; k++) {
            StageSteps x = new StageSteps(2);
            x.flex(0, 1, 0, 1);
            x.creep(10, 20);
            x.creep(20, 50);
            x.stage(7);
            x.add(0);
            x.load(0, 1);
            x.stage(7 + days[k]);
            x.add(1);
            x.end(100);
            Due.is("14: creep of d - e less creep of a - e, a - e being " + days[k], x.of(1, 3), 1000L * due[k]);
        }
    }

    private static void eventsUpToThatStage() {
        StageSteps x = new StageSteps(2);
        x.flex(0, 0, 0, 1);
        x.part(0, 1, 0);
        x.stage(0);
        x.add(0);
        x.load(0, 10);
        x.stage(1);
        x.load(0, 100);
        x.stage(2);
        x.load(0, 1000);
        Due.is("14: all events of the plan", x.of(0, 3), 1111000000L);
        Due.is("13: up to stage 0, its last act, too", x.level(0, 0), -1100000000L);
        Due.is("13: up to stage 1", x.level(0, 1), -1000000000L);
        Due.is("13: up to the last", x.level(0, 2), 0);
    }

    private static void endDay() {
        StageSteps x = loaded();
        x.creep(1, 10);
        Due.is("14: to the day of the last stage", x.of(0, 3), 1000000L);
        x.end(101);
        Due.is("14: or a later one that was told", x.of(0, 3), 1010000L);
        x.end(100);
        Due.is("14: or the last stage's own", x.of(0, 3), 1000000L);
        x.stage(101);
        Due.is("14: to the day of the new last stage", x.of(0, 3), 1010000L);
    }

    /** The greatest sums that 40 acts can make, up and down, and one thousand millionth beside them. */
    private static void exactly() {
        for (int sign = -1; sign <= 1; sign += 2) {
            StageSteps x = new StageSteps(2);
            x.part(0, 1000, sign * -100000);
            x.flex(1, 0, 0, sign * 1000);
            x.share(0, 0, 1000);
            x.release(0, 0, sign * 1000);
            x.creep(0, 4999);
            x.creep(20000, 5000);
            x.stage(0);
            x.support(0, true);
            x.add(0);
            for (int k = 0; k < 37; k++) {
                x.load(0, 1000);
            }
            x.support(0, false);
            x.end(40000);
            long up = sign * 76000L;
            Due.is("14: rise, exactly", x.of(0, 3), up * 6000L * 1000000L);
            Due.is("14: cast, exactly", x.of(0, 0), -sign * 100000L * MM - up * 6 * MM);
            Due.is("13: level, exactly", x.level(0, 0), -sign * 100000L * MM - up * 1000000L);
            Due.is("22: the greatest size, exactly", x.best(), 456000L * MM);
            Due.is("16: error, exactly", x.survey(0, 0, sign * 1000000), sign * 1100000L * MM + up * 1000000L);
            Due.is("25: check", x.check(), 1);
        }
    }

    /**
     * Part 0 is wanted at 50 mm and there from stage 1 on: at its end by so many thousand millionths of a millimetre
     * lower, later not. Parts 2 and 3 are added in stage 2.
     */
    private static StageSteps lower(int tiny) {
        StageSteps x = new StageSteps(4);
        x.part(0, 0, 50);
        x.share(0, 1, 1);
        x.release(0, 0, tiny);
        x.creep(10, 1);
        x.stage(0);
        x.support(0, true);
        x.add(1);
        x.load(1, 1);
        x.stage(1);
        x.add(0);
        x.support(0, false);
        x.stage(11);
        x.add(2);
        x.add(3);
        Due.is("13: exactly, lower by " + tiny, x.level(0, 1), 50 * MM - tiny);
        Due.is("13: exactly, where it is wanted", x.level(0, 2), 50 * MM);
        return x;
    }

    private static void offsets(int tiny, int level, long error, long second, long third) {
        StageSteps x = lower(tiny);
        String what = "16: towards 0, not beyond, error " + error;
        Due.is(what, x.survey(0, 1, level), error);
        Due.is(what + ", less MOST", x.of(2, 2), second);
        Due.is(what + ", less twice MOST", x.of(3, 2), third);
        Due.is(what + ", the surveyed one", x.of(0, 2), 0);
        Due.is(what + ", one of an earlier stage", x.of(1, 2), 0);
    }

    private static void towardsZero() {
        offsets(0, 50, 0, 0, 0);
        offsets(1, 50, 1, 0, 0);
        offsets(-1, 55, 5 * MM - 1, 0, 0);
        offsets(0, 55, 5 * MM, 0, 0);
        offsets(1, 55, 5 * MM + 1, 1, 0);
        offsets(-1, 60, 10 * MM - 1, 5 * MM - 1, 0);
        offsets(0, 60, 10 * MM, 5 * MM, 0);
        offsets(1, 60, 10 * MM + 1, 5 * MM + 1, 1);
    }

    private static void towardsZeroBelow() {
        offsets(-1, 50, -1, 0, 0);
        offsets(1, 45, -5 * MM + 1, 0, 0);
        offsets(0, 45, -5 * MM, 0, 0);
        offsets(-1, 45, -5 * MM - 1, -1, 0);
        offsets(1, 40, -10 * MM + 1, -5 * MM + 1, 0);
        offsets(0, 40, -10 * MM, -5 * MM, 0);
        offsets(-1, 40, -10 * MM - 1, -5 * MM - 1, -1);
    }

    private static void towardsZeroByMost() {
        int[] mosts = {0, 1, 1000};
        long[] second = {2001 * MM + 1, 2000 * MM + 1, 1001 * MM + 1};
        long[] third = {2001 * MM + 1, 1999 * MM + 1, MM + 1};
        for (int k = 0; k < mosts.length; k++) {
            StageSteps x = lower(1);
            Due.yes("17: most(" + mosts[k] + ")", x.most(mosts[k]));
            Due.is("16: error", x.survey(0, 1, 2051), 2001 * MM + 1);
            Due.is("16: less MOST " + mosts[k], x.of(2, 2), second[k]);
            Due.is("16: less twice MOST " + mosts[k], x.of(3, 2), third[k]);
            Due.is("16: no error, instead of their own", x.survey(1, 1, 0), 0);
            Due.is("16: no error, MOST " + mosts[k], x.of(2, 2), 0);
            Due.is("16: no error, MOST " + mosts[k], x.of(3, 2), 0);
        }
    }

    private static void towardsZeroByNothing() {
        for (int tiny = -1; tiny <= 1; tiny++) {
            StageSteps x = lower(tiny);
            x.most(0);
            Due.is("16: the least error", x.survey(0, 1, 50), tiny);
            Due.is("17: made smaller by 0", x.of(2, 2), tiny);
            Due.is("17: made smaller by twice 0", x.of(3, 2), tiny);
        }
    }

    private static void holds(String what, int tiny, int kind, int of, int low, int high, boolean due) {
        StageSteps x = lower(tiny);
        Due.is(what + ": rule", x.rule(kind, of, low, high), 0);
        Due.is(what + ", lower by " + tiny, x.broken(0), due ? Due.NONE : 1);
        Due.is(what + ", lower by " + tiny, x.broken(1), due ? Due.NONE : 0);
    }

    private static void ruleBounds() {
        for (int kind = 0; kind <= 1; kind++) {
            holds("19: not below LOW, kind " + kind, 1, kind, 0, 50, 60, false);
            holds("19: not below LOW, kind " + kind, 0, kind, 0, 50, 60, true);
            holds("19: not below LOW, kind " + kind, -1, kind, 0, 50, 60, true);
            holds("19: not above HIGH, kind " + kind, -1, kind, 0, 40, 50, false);
            holds("19: not above HIGH, kind " + kind, 0, kind, 0, 40, 50, true);
            holds("19: not above HIGH, kind " + kind, 1, kind, 0, 40, 50, true);
            holds("19: the least LOW, the greatest HIGH, kind " + kind, 1, kind, 0, MIN, MAX, true);
        }
        int[] tonnes = {-1001, -1000, -999, 999, 1000, 1001};
        boolean[] due = {false, true, true, true, true, false};
        for (int k = 0; k < tonnes.length; k++) {
            StageSteps x = new StageSteps(2);
            x.share(2, 0, 1);
            x.stage(0);
            x.support(2, true);
            x.add(0);
            x.stage(1);
            x.load(0, tonnes[k] - tonnes[k] / 2);
            x.load(0, tonnes[k] / 2);
            x.rule(2, 2, -1, 1);
            Due.is("15: thousandths of a tonne", x.carries(2, 1), tonnes[k]);
            Due.is("19: kind 2, -1 .. 1 tonnes, thousandths: " + tonnes[k], x.broken(0), due[k] ? Due.NONE : 1);
        }
    }

    /** Part 1 before part 0 would be better: 0 goes up by 1's weight when it is there. */
    private static void allowedByLoads() {
        for (int place = 0; place <= 2; place++) {
            StageSteps x = new StageSteps(2);
            x.part(1, 1, 0);
            x.flex(0, 0, 1, 1);
            x.stage(0);
            x.add(0);
            if (place == 0) {
                x.load(0, 0);
            }
            x.stage(1);
            if (place == 1) {
                x.load(0, 0);
            }
            x.add(1);
            if (place == 2) {
                x.load(0, 0);
            }
            Due.is("22: each load is on a part that is there, place " + place, x.best(), place == 2 ? 0 : 1000000L);
            Due.is("23: the first, place " + place, x.order(0), place == 2 ? 1 : 0);
        }
    }

    private static void allowedByAfter() {
        StageSteps x = new StageSteps(3);
        x.part(1, 1, 0);
        x.flex(0, 0, 1, 1);
        x.stage(0);
        x.add(0);
        x.add(2);
        x.add(1);
        Due.is("22: 1 before 0", x.best(), 0);
        Due.is("23: 1 before 0", x.order(0), 1);
        x.after(0, 2);
        Due.is("22: 2 behind 0, and 1 free", x.best(), 0);
        Due.is("23: 1, 0, 2", x.order(2), 2);
        x.after(2, 1);
        Due.is("22: 1 behind 0 over 2", x.best(), 1000000L);
        Due.is("23: 0, 2, 1", x.order(0), 0);
        Due.is("23: 0, 2, 1", x.order(1), 2);
        Due.is("23: 0, 2, 1", x.order(2), 1);
    }

    private static void bestOfSeveral() {
        int[][] flexes = {{7, 7}, {7, -7}, {-7, 7}, {7, 6}, {6, 7}, {-7, -6}, {-6, -7}, {7, -6}, {6, -7}};
        int[] first = {0, 0, 0, 1, 0, 1, 0, 1, 0};
        for (int k = 0; k < flexes.length; k++) {
            StageSteps x = new StageSteps(2);
            x.part(0, 1, 0);
            x.part(1, 1, 0);
            // 0 first: 0 goes up by the one, 1 first: 1 by the other
            x.flex(0, 0, 1, flexes[k][0]);
            x.flex(0, 1, 0, flexes[k][1]);
            x.stage(0);
            x.add(1);
            x.add(0);
            long least = Math.min(Math.abs(flexes[k][0]), Math.abs(flexes[k][1]));
            Due.is("22: the least greatest size, without its sign, case " + k, x.best(), least * 1000000L);
            Due.is("23: of several the first row, case " + k, x.order(0), first[k]);
        }
    }

    /** Parts 0 and 2 would creep by far more than part 1, but are not added, or no more. */
    private static void bestOfThePlansParts() {
        StageSteps x = new StageSteps(3);
        x.flex(0, 0, 1, 1000);
        x.flex(0, 1, 1, -1);
        x.flex(0, 2, 1, -1000);
        x.creep(0, 1);
        x.creep(5, 5000);
        x.stage(0);
        x.add(1);
        x.load(1, 1);
        x.end(9);
        Due.is("22: of cambers of parts that the plan adds", x.best(), 6000000L);
        x.stage(1);
        x.add(2);
        x.add(0);
        x.end(9);
        Due.is("22: all three are added", x.best(), 4999000000L);
        Due.is("23: the first of equals", x.order(1), 0);
        x.redo(1);
        Due.is("22: they went", x.best(), 6000000L);
        Due.none("23: they went", x.order(1));
    }

    private static void asIfToldBefore() {
        String[] names = {"part", "part", "flex", "flex", "share", "share", "release", "creep", "creep"};
        int[][] givens = {{1, 500, 777}, {0, 1, -1}, {0, 1, 1, 99}, {5, 3, 0, -77}, {2, 0, -50}, {0, 3, 45}, {0, 1, 61},
            {10, 400}, {50, 70}};
        for (int k = 0; k < names.length; k++) {
            StageSteps before = new StageSteps(4);
            StageSteps behind = new StageSteps(4);
            Bridges.givens(before);
            Due.is("it is told before", Calls.on(before, names[k], givens[k]), 1);
            Bridges.plan(before);
            Bridges.givens(behind);
            Bridges.plan(behind);
            Due.is("it is told behind", Calls.on(behind, names[k], givens[k]), 1);
            Due.yes("2 to 6: " + Calls.text(names[k], givens[k]) + " counts for the whole plan, as if it had been told before",
                    Later.of(before).equals(Later.of(behind)));
        }
        StageSteps before = new StageSteps(4);
        StageSteps behind = new StageSteps(4);
        Bridges.givens(before);
        Bridges.plan(before);
        Bridges.plan(behind);
        Bridges.givens(behind);
        Due.yes("2 to 6: all told behind the plan", Later.of(before).equals(Later.of(behind)));
    }

    private static void latterCounts() {
        StageSteps x = loaded();
        x.part(0, 0, 3);
        x.part(0, 0, 4);
        Due.is("2: what is told again", x.level(0, 0), 4 * MM);
        Due.no("2: what is refused", x.part(0, 0, 100001));
        Due.is("2: what is refused does not count", x.level(0, 0), 4 * MM);
        x.flex(0, 0, 0, -9);
        Due.is("3: what is told again", x.of(0, 3), -9000000L);
        Due.no("3: what is refused", x.flex(0, 0, 0, 1001));
        Due.is("3: what is refused does not count", x.of(0, 3), -9000000L);
        x.creep(0, 1000);
        Due.is("6: told behind", x.of(0, 3), -18000000L);
        Due.no("6: what is refused", x.creep(0, 2000));
        Due.is("6: what is refused does not count", x.of(0, 3), -18000000L);
    }
}
