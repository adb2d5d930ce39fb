/**
 * What later calls show of an object, in one text: first all answers of its plan, then its days, then two plans made anew
 * that bring out what no call tells by itself (weights, flexes, shares, releases, creep, what comes after what, MOST).
 * Some 400 calls at most, so that an object made by up to 100 others stays within its 512.
 */
final class Later {
    private static final int PARTS = 6;
    private static final int SUPPORTS = 3;
    private static final int[] AGES = {0, 1, 9, 10, 11, 19, 20, 21, 19999, 20000, 20001};
    /** Supports to put on or take off, one after the other: states 0, 1, 3, 2, and 4, 5, 7, 6. */
    private static final int[][] TURNS = {{0, 1, 0}, {2, 0, 1, 0}};

    private final StageSteps x;
    private final StringBuilder text = new StringBuilder();

    private Later(StageSteps x) {
        this.x = x;
    }

    static String of(StageSteps x) {
        Later later = new Later(x);
        later.plan();
        later.days();
        later.anew(0);
        later.anew(1);
        later.creep();
        return later.text.toString();
    }

    private long ask(String name, int... a) {
        long answer = Calls.on(x, name, a);
        text.append(Calls.text(name, a)).append(" = ").append(answer).append('\n');
        return answer;
    }

    private void plan() {
        for (int what = 0; what <= 5; what++) {
            ask("told", what);
            ask("order", what);
        }
        int stages = (int) x.told(0);
        for (int part = 0; part < PARTS; part++) {
            for (int what = 0; what <= 4; what++) {
                ask("of", part, what);
            }
            for (int stage = 0; stage < stages; stage++) {
                ask("level", part, stage);
            }
        }
        for (int k = 0; k < SUPPORTS; k++) {
            for (int stage = 0; stage < stages; stage++) {
                ask("carries", k, stage);
            }
        }
        ask("broken", 0);
        ask("broken", 1);
        ask("check");
    }

    /** A stage's day is the end day when later ones are gone; a stage behind the told end day makes that told no more. */
    private void days() {
        ask("redo", 11);
        x.end(19999);
        int stages = (int) x.told(0);
        x.stage(20000);
        for (int stage = stages; stage > 0; stage--) {
            ask("redo", stage);
            ask("told", 5);
        }
    }

    /** A part a stage, those of great numbers first or last; a survey; each part loaded in four of the states. */
    private void anew(int round) {
        ask("redo", 0);
        int last = -1;
        for (int day = 0; day < PARTS && x.told(2) == day; day++) {
            last = (int) ask("stage", day);
            for (int k = 0; k < PARTS; k++) {
                if (ask("add", round == 0 ? k : PARTS - 1 - k) == 1) {
                    break;
                }
            }
        }
        for (int part = 0; part < PARTS; part++) {
            ask("survey", part, 0, 90000);
        }
        loadAll(1);
        for (int turn = 0; turn < TURNS[round].length; turn++) {
            int k = TURNS[round][turn];
            ask("support", k, (x.told(3) >> k & 1) == 1 ? 0 : 1);
            loadAll(7 * turn + 20);
            ask("carries", k, last);
        }
        for (int k = 0; k < SUPPORTS; k++) {
            ask("carries", k, last);
            ask("support", k, 0);
        }
        for (int part = 0; part < PARTS; part++) {
            ask("of", part, 0);
            ask("of", part, 2);
        }
        ask("best");
    }

    private void loadAll(int tonnes) {
        for (int part = 0; part < PARTS; part++) {
            Calls.on(x, "load", part, tonnes + part);
        }
    }

    private void creep() {
        int last = (int) x.told(5);
        x.flex(0, 0, 0, 1);
        ask("load", 0, 1000);
        for (int age : AGES) {
            ask("end", last + age);
            ask("of", 0, 3);
        }
        for (int k = 0; k < 9; k++) {
            ask("creep", 19990 + k, 5000);
        }
    }
}
