/** Promises 22 and 23: the best order. */
public final class OrderTest {
    private OrderTest() {
    }

    public static void main(String[] args) {
        nothing();
        firstOfEqual();
        lesserGreatest();
        sizeWithoutSign();
        loadsOnPartsThatAreThere();
        comesAfter();
        byEndDay();
        supportsCarryByOrder();
        planStays();
        latestThatWasFound();
        onlyPartsOfThePlan();
        Due.finish("OrderTest");
    }

    private static void order(String what, StageSteps x, long... due) {
        for (int k = 0; k < due.length; k++) {
            Due.is(what + ", order(" + k + ")", x.order(k), due[k]);
        }
        int[] wrong = {-1, due.length, 6, Integer.MIN_VALUE, Integer.MAX_VALUE};
        for (int k : wrong) {
            Due.none(what + ", order(" + k + ")", x.order(k));
        }
    }

    private static void nothing() {
        StageSteps x = new StageSteps(4);
        Due.none("22: no stage", x.best());
        order("23: none found", x);
        x.stage(1);
        x.support(0, true);
        Due.none("22: nothing is added", x.best());
        order("23: none found", x);
    }

    private static void firstOfEqual() {
        StageSteps x = new StageSteps(4);
        x.stage(1);
        x.add(3);
        x.add(1);
        x.stage(2);
        x.add(0);
        order("23: best() was not called", x);
        Due.is("22: all cambers are 0", x.best(), 0);
        order("23: the first in the order of rows", x, 0, 1, 3);
    }

    private static void lesserGreatest() {
        StageSteps x = new StageSteps(3);
        x.part(0, 10, 0);
        x.part(1, 20, 0);
        x.part(2, 30, 0);
        // what comes while 0 is there moves it: 1 by 5 a tonne, 2 by 1
        x.flex(0, 0, 1, -5);
        x.flex(0, 0, 2, -1);
        x.flex(0, 1, 0, -7);
        x.stage(1);
        x.add(0);
        x.stage(2);
        x.add(1);
        x.stage(3);
        x.add(2);
        // 1 before 0 makes 1 go by 70, 0 before 1 makes 0 go by 100; 2 before 0 spares 30
        Due.is("22: best", x.best(), 70000000L);
        order("23: 1 before 0, the first such row", x, 1, 0, 2);
        x.flex(0, 1, 0, -10);
        Due.is("22: as great both ways", x.best(), 100000000L);
        order("23: 1, 0, 2 is before 2, 0, 1", x, 1, 0, 2);
        x.flex(0, 1, 0, -11);
        Due.is("22: 2 first, then 0, 1", x.best(), 100000000L);
        order("23: 0 before 1, behind 2", x, 2, 0, 1);
    }

    private static void sizeWithoutSign() {
        StageSteps x = new StageSteps(2);
        x.part(0, 1, 0);
        x.part(1, 1, 0);
        x.flex(0, 0, 1, 50);
        x.flex(0, 1, 0, -40);
        x.stage(1);
        x.add(0);
        x.add(1);
        Due.is("22: -40 is less than 50", x.best(), 40000000L);
        order("23: best", x, 1, 0);
        x.flex(0, 0, 1, -50);
        x.flex(0, 1, 0, 60);
        Due.is("22: -50 is less than 60", x.best(), 50000000L);
        order("23: best", x, 0, 1);
    }

    private static void loadsOnPartsThatAreThere() {
        StageSteps x = new StageSteps(3);
        x.part(1, 1, 0);
        x.flex(0, 2, 1, 9);
        x.stage(1);
        x.add(2);
        x.load(2, 1);
        x.stage(2);
        x.add(0);
        x.add(1);
        Due.is("22: 2 must be the first", x.best(), 9000000L);
        order("23: best", x, 2, 0, 1);
        x.redo(0);
        x.stage(1);
        x.add(2);
        x.stage(2);
        x.load(2, 1);
        x.add(1);
        x.load(1, 0);
        x.add(0);
        x.load(1, 0);
        Due.is("22: 1 must be the second", x.best(), 9000000L);
        order("23: best", x, 2, 1, 0);
    }

    private static void comesAfter() {
        StageSteps x = new StageSteps(3);
        x.part(1, 1, 0);
        x.flex(0, 2, 1, 9);
        x.stage(1);
        x.add(2);
        x.add(1);
        x.add(0);
        Due.is("22: 1 before 2", x.best(), 0);
        order("23: best", x, 0, 1, 2);
        x.after(2, 1);
        Due.is("22: 1 comes after 2", x.best(), 9000000L);
        order("23: best", x, 0, 2, 1);
        x.after(1, 0);
        Due.is("22: 0 comes after 1", x.best(), 9000000L);
        order("23: best", x, 2, 1, 0);
    }

    private static void byEndDay() {
        StageSteps x = new StageSteps(2);
        x.part(0, 10, 0);
        x.part(1, 10, 0);
        x.flex(0, 0, 1, 10);
        x.flex(0, 1, 0, 11);
        x.creep(50, 4000);
        x.stage(0);
        x.add(0);
        x.stage(49);
        x.add(1);
        // 0 first: 0 goes up by 100; 1 first: by 110
        Due.is("22: the last stage's day", x.best(), 100000000L);
        order("23: best", x, 0, 1);
        x.end(50);
        // 0 first: 0 by 100, 1 by 110 * 4; 1 first: 1 by 110, 0 by 100 * 4
        Due.is("22: the end day", x.best(), 400000000L);
        order("23: best", x, 1, 0);
    }

    private static void supportsCarryByOrder() {
        StageSteps x = new StageSteps(2);
        x.part(0, 10, 0);
        x.part(1, 10, 0);
        x.share(0, 0, 900);
        x.share(0, 1, 100);
        x.release(0, 0, -10);
        x.release(0, 1, -10);
        x.stage(0);
        x.support(0, true);
        x.add(0);
        x.stage(5);
        x.support(0, false);
        x.add(1);
        Due.is("22: it carries less of 1", x.best(), 10000000L);
        order("23: best", x, 1, 0);
    }

    private static void planStays() {
        StageSteps x = new StageSteps(2);
        x.part(0, 1, 0);
        x.part(1, 1, 0);
        x.flex(0, 0, 1, 50);
        x.stage(1);
        x.add(0);
        x.stage(2);
        x.add(1);
        String before = levels(x);
        Due.is("22: best", x.best(), 0);
        order("23: best", x, 1, 0);
        Due.yes("22: the plan stays as it is", before.equals(levels(x)));
    }

    private static String levels(StageSteps x) {
        StringBuilder text = new StringBuilder();
        for (int part = 0; part < 2; part++) {
            for (int what = 0; what < 5; what++) {
                text.append(x.of(part, what)).append(' ');
            }
            text.append(x.level(part, 0)).append(' ').append(x.level(part, 1)).append(' ');
        }
        return text.append(x.told(1)).append(' ').append(x.check()).toString();
    }

    private static void latestThatWasFound() {
        StageSteps x = new StageSteps(3);
        x.stage(1);
        x.add(2);
        x.add(0);
        x.best();
        x.redo(0);
        order("23: the plan is gone, the order stays", x, 0, 2);
        Due.none("22: nothing is added", x.best());
        order("23: it was NONE, the order stays", x, 0, 2);
        x.stage(1);
        x.add(1);
        order("23: best() was not called since", x, 0, 2);
        Due.is("22: one part", x.best(), 0);
        order("23: the latest", x, 1);
    }

    private static void onlyPartsOfThePlan() {
        StageSteps x = new StageSteps(3);
        x.part(0, 1, 0);
        x.flex(0, 0, 0, 1);
        x.flex(0, 2, 0, 1000);
        x.creep(0, 5);
        x.creep(3, 1000);
        x.stage(1);
        x.add(0);
        x.end(9);
        Due.is("22: parts that are not added do not count", x.best(), 2000000L);
        order("23: best", x, 0);
    }
}
