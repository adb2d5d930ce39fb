/** What is refused changes nothing: an object that was told much that it refused is as one that was not. */
public final class RefusalTest {
    private static final int MIN = Integer.MIN_VALUE;
    private static final int MAX = Integer.MAX_VALUE;
    private static final int[] FAR = {MIN, -1, MAX};

    private RefusalTest() {
    }

    public static void main(String[] args) {
        StageSteps plain = new StageSteps(4);
        StageSteps told = new StageSteps(4);
        Bridges.busy(plain);
        Bridges.busy(told);
        refuseGivens(told);
        refusePlan(told);
        refuseRest(told);
        Due.yes("what is refused changes nothing", State.of(plain).equals(State.of(told)));
        emptyPlan();
        Due.finish("RefusalTest");
    }

    private static void refuseGivens(StageSteps x) {
        for (int far : FAR) {
            Due.no("2: part", x.part(far, 1, 1));
            Due.no("2: weight", x.part(0, far, 1));
            Due.no("2: wanted", x.part(0, 1, far == -1 ? 100001 : far));
            Due.no("3: state", x.flex(far, 0, 0, 9));
            Due.no("3: i", x.flex(0, far, 0, 9));
            Due.no("3: j", x.flex(0, 0, far, 9));
            Due.no("3: v", x.flex(0, 0, 0, far == -1 ? 1001 : far));
            Due.no("4: support", x.share(far, 1, 9));
            Due.no("4: part", x.share(0, far, 9));
            Due.no("4: v", x.share(0, 1, far == -1 ? -1001 : far));
            Due.no("5: support", x.release(far, 1, 9));
            Due.no("5: part", x.release(0, far, 9));
            Due.no("5: v", x.release(0, 1, far == -1 ? -1001 : far));
            Due.no("6: age", x.creep(far, 100));
            Due.no("6: v", x.creep(30, far));
        }
        Due.no("6: age told before", x.creep(9, 100));
        Due.no("6: less than before", x.creep(10, 69));
        Due.no("7: the plan has 3 behind 1", x.after(3, 1));
        Due.no("7: the plan has 3, and not 2", x.after(2, 3));
        Due.no("7: the same", x.after(2, 2));
        Due.no("7: no such part", x.after(0, 4));
    }

    private static void refusePlan(StageSteps x) {
        for (int far : FAR) {
            Due.none("8: day", x.stage(far));
            Due.no("9: part", x.add(far));
            Due.no("10: part", x.load(far, 5));
            Due.no("10: tonnes", x.load(0, far == -1 ? 1001 : far));
            Due.no("11: support", x.support(far, true));
            Due.no("12: day", x.end(far));
            Due.no("20: stage", x.shift(far, 1));
            Due.no("20: days", x.shift(1, far == -1 ? -6 : far));
            Due.none("21: stage", x.redo(far));
        }
        Due.none("8: the last day again", x.stage(13));
        Due.no("9: it is there", x.add(1));
        Due.no("10: it is not there", x.load(2, 5));
        Due.no("11: it is on", x.support(2, true));
        Due.no("11: it is off", x.support(1, false));
        Due.no("12: before the last stage", x.end(12));
        Due.no("20: beyond the bounds", x.shift(0, 19988));
        Due.no("20: no such stage", x.shift(3, 1));
        Due.none("21: no such stage", x.redo(3));
    }

    private static void refuseRest(StageSteps x) {
        for (int far : FAR) {
            Due.none("16: part", x.survey(far, 0, 9));
            Due.none("16: stage", x.survey(1, far, 9));
            Due.none("16: level", x.survey(1, 0, far == -1 ? 1000001 : far));
            Due.no("17: v", x.most(far));
            Due.none("18: kind", x.rule(far, 0, 0, 1));
            Due.none("18: of", x.rule(0, far, 0, 1));
            Due.none("18: of", x.rule(1, far, 0, 1));
            Due.none("18: of", x.rule(2, far, 0, 1));
        }
        Due.none("16: it is not there then", x.survey(3, 0, 9));
        Due.none("16: it is never added", x.survey(2, 2, 9));
        Due.none("18: no next part", x.rule(1, 3, 0, 1));
        Due.none("18: low above high", x.rule(0, 0, 1, 0));
    }

    private static void emptyPlan() {
        StageSteps x = new StageSteps(6);
        Due.no("9: no stage", x.add(0));
        Due.no("10: no stage", x.load(0, 1));
        Due.no("11: no stage", x.support(0, true));
        Due.no("12: no stage", x.end(1));
        Due.no("20: no stage", x.shift(0, 0));
        Due.none("16: no stage", x.survey(0, 0, 0));
        Due.none("21: no stage", x.redo(0));
        Due.none("22: nothing is added", x.best());
        Due.yes("what is refused changes nothing", State.of(x).equals(State.of(new StageSteps(6))));
    }
}
