/** Promises 8 to 12, 20, 21 and 24: stages, acts, the end day, days shifted, stages done anew, what is told of them. */
public final class PlanTest {
    private static final int MIN = Integer.MIN_VALUE;
    private static final int MAX = Integer.MAX_VALUE;

    private PlanTest() {
    }

    public static void main(String[] args) {
        stage();
        stageLimits();
        add();
        load();
        support();
        roomForActs();
        end();
        endIsToldNoMore();
        endIsKept();
        shift();
        shiftLimits();
        shiftMovesEvents();
        redo();
        redoAndSupports();
        told();
        Due.finish("PlanTest");
    }

    private static void stage() {
        StageSteps x = new StageSteps(2);
        Due.none("8: stage(-1)", x.stage(-1));
        Due.none("8: stage(20001)", x.stage(20001));
        Due.none("8: stage(MIN)", x.stage(MIN));
        Due.none("8: stage(MAX)", x.stage(MAX));
        Due.is("8: nothing was done", x.told(0), 0);
        Due.is("8: stage(0)", x.stage(0), 0);
        Due.none("8: the day again", x.stage(0));
        Due.is("8: stage(1)", x.stage(1), 1);
        Due.none("8: a day before", x.stage(0));
        Due.is("8: stage(20000)", x.stage(20000), 2);
        Due.none("8: no day above", x.stage(20001));
        Due.is("8: three stages", x.told(0), 3);
    }

    private static void stageLimits() {
        StageSteps x = new StageSteps(2);
        for (int k = 0; k < 12; k++) {
            Due.is("8: stage number " + k, x.stage(5 + 2 * k), k);
        }
        Due.none("8: there are 12", x.stage(100));
        Due.is("8: still 12", x.told(0), 12);
        Due.is("8: the end day is the 12th's", x.told(5), 27);
    }

    private static void add() {
        StageSteps x = new StageSteps(3);
        Due.no("9: no stage", x.add(0));
        x.stage(3);
        Due.no("9: add(-1)", x.add(-1));
        Due.no("9: add(3)", x.add(3));
        Due.no("9: add(MIN)", x.add(MIN));
        Due.no("9: add(MAX)", x.add(MAX));
        x.after(1, 0);
        Due.no("9: one that it must come after is not there", x.add(0));
        Due.yes("9: add(1)", x.add(1));
        Due.no("9: it is there", x.add(1));
        x.stage(4);
        Due.no("9: it is there, from an earlier stage", x.add(1));
        Due.yes("9: add(0)", x.add(0));
        Due.is("9: in the last stage", x.of(0, 4), 1);
        Due.is("9: in the first stage", x.of(1, 4), 0);
        Due.none("9: not added", x.of(2, 4));
        Due.is("9: two acts", x.told(1), 2);
        Due.is("9: two parts", x.told(2), 2);
    }

    private static void load() {
        StageSteps x = new StageSteps(3);
        x.flex(0, 0, 0, 1);
        Due.no("10: no stage", x.load(0, 1));
        x.stage(3);
        Due.no("10: it is not there", x.load(0, 1));
        x.add(0);
        int[][] wrong = {{-1, 1}, {3, 1}, {1, 1}, {MIN, 1}, {MAX, 1}, {0, -1001}, {0, 1001}, {0, MIN}, {0, MAX}};
        for (int[] w : wrong) {
            Due.no("10: load(" + w[0] + ", " + w[1] + ")", x.load(w[0], w[1]));
        }
        Due.is("10: nothing was done", x.told(1), 1);
        Due.yes("10: load(0, 1000)", x.load(0, 1000));
        Due.is("10: rise by 1000", x.of(0, 3), 1000000000L);
        x.stage(4);
        Due.yes("10: load(0, -1000)", x.load(0, -1000));
        Due.is("10: rise by both", x.of(0, 3), 0);
        Due.is("10: in the last stage", x.level(0, 0), 1000000000L);
        Due.yes("10: load(0, 0)", x.load(0, 0));
        Due.is("10: it is an act, too", x.told(1), 4);
    }

    private static void support() {
        StageSteps x = new StageSteps(2);
        Due.no("11: no stage", x.support(0, true));
        x.stage(3);
        Due.no("11: support(-1)", x.support(-1, true));
        Due.no("11: support(3)", x.support(3, true));
        Due.no("11: support(MIN)", x.support(MIN, true));
        Due.no("11: support(MAX)", x.support(MAX, true));
        Due.no("11: support(32) is not support 0", x.support(32, true));
        for (int k = 0; k < 3; k++) {
            Due.no("11: it is off", x.support(k, false));
            Due.yes("11: put on", x.support(k, true));
            Due.no("11: it is on", x.support(k, true));
            Due.is("11: on by bits", x.told(3), (2 << k) - 1);
        }
        x.stage(4);
        Due.no("11: it is on, from an earlier stage", x.support(1, true));
        Due.yes("11: taken off", x.support(1, false));
        Due.no("11: it is off", x.support(1, false));
        Due.is("11: on by bits", x.told(3), 5);
        Due.yes("11: put on again", x.support(1, true));
        Due.is("11: acts", x.told(1), 5);
    }

    private static void roomForActs() {
        StageSteps x = new StageSteps(3);
        x.stage(0);
        x.add(0);
        x.add(1);
        for (int k = 2; k < 40; k++) {
            if (k == 20) {
                x.stage(1);
            }
            Due.yes("10: room for act " + k, k % 3 == 0 ? x.support(2, x.told(3) == 0) : x.load(0, 1));
        }
        Due.is("24: 40 acts", x.told(1), 40);
        Due.no("9: no room", x.add(2));
        Due.no("10: no room", x.load(0, 1));
        Due.no("11: no room", x.support(0, true));
        x.stage(2);
        Due.no("9: no room in a new stage", x.add(2));
        Due.is("21: acts of stage 1 and 2", x.redo(1), 20);
        Due.yes("9: room again", x.add(2));
    }

    private static void end() {
        StageSteps x = new StageSteps(2);
        Due.no("12: no stage", x.end(5));
        x.stage(10);
        x.stage(30);
        Due.is("12: the last stage's day", x.told(5), 30);
        Due.no("12: before the last stage", x.end(29));
        Due.no("12: end(MIN)", x.end(MIN));
        Due.no("12: above 40000", x.end(40001));
        Due.no("12: end(MAX)", x.end(MAX));
        Due.is("12: nothing was done", x.told(5), 30);
        Due.yes("12: the last stage's own day", x.end(30));
        Due.yes("12: end(40000)", x.end(40000));
        Due.is("12: it is told", x.told(5), 40000);
        Due.yes("12: told again, before", x.end(31));
        Due.is("12: the latter counts", x.told(5), 31);
    }

    private static void endIsToldNoMore() {
        StageSteps x = new StageSteps(2);
        x.stage(10);
        x.end(100);
        x.stage(101);
        Due.is("12: a stage on a later day", x.told(5), 101);
        x.redo(1);
        Due.is("12: it is told no more", x.told(5), 10);
        x.end(100);
        x.shift(0, 91);
        Due.is("12: shifted to a later day", x.told(5), 101);
        x.shift(0, -1);
        Due.is("12: it is told no more", x.told(5), 100);
        x.shift(0, -50);
        Due.is("12: it is told no more", x.told(5), 50);
        x.end(60);
        x.redo(0);
        Due.none("12: there is no stage", x.told(5));
        x.stage(5);
        Due.is("12: it is told no more", x.told(5), 5);
    }

    private static void endIsKept() {
        StageSteps x = new StageSteps(2);
        x.stage(10);
        x.end(100);
        x.stage(99);
        Due.is("12: a stage before the end day", x.told(5), 100);
        x.shift(1, 1);
        Due.is("12: a stage on the end day", x.told(5), 100);
        x.shift(1, -40);
        Due.is("12: it stays told", x.told(5), 100);
        x.redo(1);
        Due.is("12: it stays told when stages go", x.told(5), 100);
        x.shift(0, -10);
        Due.is("12: it stays told when days are earlier", x.told(5), 100);
    }

    private static void shift() {
        StageSteps x = new StageSteps(2);
        Due.no("20: no stage", x.shift(0, 1));
        x.stage(10);
        x.stage(20);
        x.stage(30);
        Due.no("20: shift(-1, 1)", x.shift(-1, 1));
        Due.no("20: shift(3, 1)", x.shift(3, 1));
        Due.no("20: shift(MIN, 1)", x.shift(MIN, 1));
        Due.no("20: shift(MAX, 1)", x.shift(MAX, 1));
        Due.yes("20: no days", x.shift(1, 0));
        Due.is("20: as it was", x.told(5), 30);
        Due.no("20: the day of the one before", x.shift(1, -10));
        Due.no("20: the day of the one before", x.shift(2, -10));
        Due.no("20: before that", x.shift(2, -11));
        Due.yes("20: just above", x.shift(1, -9));
        Due.is("20: all later ones, too", x.told(5), 21);
        Due.yes("20: the last one alone", x.shift(2, 5));
        Due.is("20: the last day", x.told(5), 26);
        Due.no("20: the second is on day 11 still", x.shift(1, -1));
        Due.yes("20: the first to day 0", x.shift(0, -10));
        Due.is("20: the last day", x.told(5), 16);
        Due.no("20: below day 0", x.shift(0, -1));
    }

    private static void shiftLimits() {
        StageSteps x = new StageSteps(2);
        x.stage(0);
        x.stage(19999);
        Due.yes("20: to day 20000", x.shift(0, 1));
        Due.no("20: beyond day 20000", x.shift(0, 1));
        Due.no("20: beyond day 20000", x.shift(1, 1));
        int[] wrong = {20001, 19999, -20000, -20001, MIN, MAX, MAX - 100, MIN + 100};
        for (int days : wrong) {
            Due.no("20: shift(0, " + days + ")", x.shift(0, days));
            Due.no("20: shift(1, " + days + ")", x.shift(1, days));
        }
        Due.is("20: nothing was done", x.told(5), 20000);
        Due.none("20: nothing was done", x.stage(20000));
        StageSteps y = new StageSteps(2);
        for (int k = 0; k < 12; k++) {
            y.stage(k);
        }
        Due.yes("20: all of 12 stages", y.shift(0, 19989));
        Due.is("20: the last of them", y.told(5), 20000);
        Due.no("20: none can go on", y.shift(11, 1));
    }

    private static void shiftMovesEvents() {
        StageSteps x = new StageSteps(2);
        x.flex(0, 0, 0, 1);
        x.creep(10, 500);
        x.stage(0);
        x.add(0);
        x.load(0, 1);
        x.stage(9);
        Due.is("20: no creep yet", x.of(0, 3), 1000000L);
        x.shift(1, 1);
        Due.is("20: an age of 10 days", x.of(0, 3), 1500000L);
        x.shift(0, 1);
        Due.is("20: an age of 10 days still", x.of(0, 3), 1500000L);
        x.shift(1, -1);
        Due.is("20: an age of 9 days again", x.of(0, 3), 1000000L);
    }

    private static void redo() {
        StageSteps x = new StageSteps(4);
        Due.none("21: no stage", x.redo(0));
        x.stage(1);
        x.add(2);
        x.stage(2);
        x.add(0);
        x.load(2, 5);
        x.stage(3);
        x.stage(4);
        x.add(1);
        x.survey(2, 0, 100);
        Due.none("21: redo(-1)", x.redo(-1));
        Due.none("21: redo(4)", x.redo(4));
        Due.none("21: redo(MIN)", x.redo(MIN));
        Due.none("21: redo(MAX)", x.redo(MAX));
        Due.is("21: nothing was done", x.told(1), 4);
        Due.is("21: the offset of 0", x.of(0, 2), 95000000000L);
        Due.is("21: the offset of 1", x.of(1, 2), 90000000000L);
        Due.is("21: redo(2)", x.redo(2), 1);
        Due.is("21: two stages", x.told(0), 2);
        Due.is("21: two parts", x.told(2), 2);
        Due.none("21: 1 went", x.of(1, 2));
        Due.is("21: 0 keeps its offset", x.of(0, 2), 95000000000L);
        Due.is("21: a new stage takes the number", x.stage(7), 2);
        Due.is("21: a stage without acts", x.redo(2), 0);
        x.add(1);
        Due.is("21: offsets of parts that went are 0", x.of(1, 2), 0);
        Due.is("21: added anew in stage 1", x.of(1, 4), 1);
        Due.is("21: redo(0)", x.redo(0), 4);
        Due.is("21: no stages", x.told(0), 0);
        Due.is("21: no acts", x.told(1), 0);
        Due.is("21: no parts", x.told(2), 0);
        Due.is("21: any day is free", x.stage(0), 0);
        x.add(0);
        Due.is("21: the offset is 0", x.of(0, 2), 0);
    }

    private static void redoAndSupports() {
        StageSteps x = new StageSteps(2);
        x.share(0, 0, 100);
        x.stage(1);
        x.support(0, true);
        x.add(0);
        x.load(0, 4);
        x.stage(2);
        x.support(0, false);
        x.support(2, true);
        Due.is("24: on at the end", x.told(3), 4);
        Due.is("21: two acts", x.redo(1), 2);
        Due.is("21: on as before", x.told(3), 1);
        Due.is("21: carries as before", x.carries(0, 0), 400);
        x.stage(2);
        Due.yes("21: it can be taken off anew", x.support(0, false));
        Due.is("15: it carries nothing then", x.carries(0, 1), 0);
    }

    private static void told() {
        StageSteps x = new StageSteps(3);
        x.stage(4);
        x.support(1, true);
        x.support(2, true);
        x.add(2);
        x.stage(6);
        x.support(2, false);
        x.add(0);
        x.load(0, 1);
        x.rule(2, 0, 0, 0);
        x.rule(2, 0, 0, 0);
        x.rule(2, 0, 1, 0);
        x.end(99);
        long[] due = {2, 6, 2, 2, 2, 99};
        for (int what = 0; what < due.length; what++) {
            Due.is("24: told(" + what + ")", x.told(what), due[what]);
        }
        int[] wrong = {-1, 6, MIN, MAX};
        for (int what : wrong) {
            Due.none("24: told(" + what + ")", x.told(what));
        }
    }
}
