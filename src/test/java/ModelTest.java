/** Long runs of made-up calls: each answer of the program is the model's; wrong inputs and refused calls among them. */
public final class ModelTest {
    private static final int RUNS = 2000;
    private static final int CALLS = 480;
    private static final int[] FAR = {Integer.MIN_VALUE, Integer.MIN_VALUE + 1, -1000001, -100001, -1001, -1, 0, 1, 7, 8,
        12, 40, 1001, 5001, 20001, 40001, 100001, 1000001, Integer.MAX_VALUE - 1, Integer.MAX_VALUE};

    /** The same numbers in every run of the test. */
    private static long seed = 20261115L;

    private static StageSteps x;
    private static Model m;
    private static int parts;
    private static int bests;

    private ModelTest() {
    }

    public static void main(String[] args) {
        for (int run = 0; run < RUNS; run++) {
            parts = next(8) == 0 ? pick(0, 7) : pick(2, 6);
            x = new StageSteps(parts);
            m = new Model(parts);
            bests = 0;
            int givens = run % 3 == 0 ? 0 : 120;
            for (int call = 0; call < CALLS; call++) {
                one(run, call < givens ? pick(0, 5) : pick(0, 99));
            }
        }
        Due.finish("ModelTest");
    }

    private static int next(int bound) {
        seed = seed * 6364136223846793005L + 1442695040888963407L;
        return (int) ((seed >>> 33) % bound);
    }

    private static int pick(int low, int high) {
        return next(60) == 0 ? FAR[next(FAR.length)] : low + next(high - low + 1);
    }

    /** A number of the range, its bounds and what is just beyond them more often than others. */
    private static int edge(int low, int high) {
        int kind = next(24);
        return kind == 0 ? low : kind == 1 ? high : kind == 2 ? low - 1 : kind == 3 ? high + 1 : pick(low, high);
    }

    private static int aPart() {
        return pick(0, Math.max(1, Math.min(5, parts - 1)));
    }

    private static int aStage() {
        int stages = (int) m.told(0);
        return next(15) == 0 ? pick(-1, 12) : pick(0, Math.max(0, stages - 1));
    }

    private static void one(int run, int kind) {
        if (kind < 6) {
            given(run, kind);
        } else if (kind < 50) {
            build(run, kind);
        } else if (kind < 62) {
            change(run, kind);
        } else {
            ask(run, kind);
        }
    }

    private static void due(int run, String call, boolean got, boolean want) {
        due(run, call, got ? 1 : 0, want ? 1 : 0);
    }

    private static void due(int run, String call, long got, long want) {
        Due.is("run " + run + ": " + call, got, want);
    }

    private static void given(int run, int kind) {
        int a = aPart();
        int b = aPart();
        int k = pick(0, 2);
        int v = edge(-1000, 1000);
        switch (kind) {
            case 0: {
                int w = edge(0, 1000);
                int level = next(2) == 0 ? edge(-100000, 100000) : pick(-20, 20);
                due(run, "part(" + a + ", " + w + ", " + level + ")", x.part(a, w, level), m.part(a, w, level));
                break;
            }
            case 1: {
                int state = pick(0, 7);
                due(run, "flex(" + state + ", " + a + ", " + b + ", " + v + ")", x.flex(state, a, b, v), m.flex(state, a, b, v));
                break;
            }
            case 2: {
                int state = next(2) == 0 ? 0 : 1 << k;
                due(run, "flex(" + state + ", " + a + ", " + b + ", " + v + ")", x.flex(state, a, b, v), m.flex(state, a, b, v));
                break;
            }
            case 3:
                due(run, "share(" + k + ", " + a + ", " + v + ")", x.share(k, a, v), m.share(k, a, v));
                break;
            case 4:
                due(run, "release(" + k + ", " + a + ", " + v + ")", x.release(k, a, v), m.release(k, a, v));
                break;
            default: {
                int age = next(3) == 0 ? edge(0, 20000) : pick(0, 60);
                int c = next(3) == 0 ? edge(0, 5000) : pick(0, 300);
                if (next(4) == 0) {
                    due(run, "creep(" + age + ", " + c + ")", x.creep(age, c), m.creep(age, c));
                }
                if (next(12) == 0) {
                    due(run, "after(" + a + ", " + b + ")", x.after(a, b), m.after(a, b));
                }
                break;
            }
        }
    }

    private static void build(int run, int kind) {
        int a = aPart();
        if (kind < 14) {
            int day = next(40) == 0 ? edge(0, 20000) : m.lastDay() + pick(-1, 12);
            if (next(3) == 0) {
                due(run, "stage(" + day + ")", x.stage(day), m.stage(day));
            }
        } else if (kind < 24) {
            due(run, "add(" + a + ")", x.add(a), m.add(a));
        } else if (kind < 34) {
            int tonnes = edge(-1000, 1000);
            if (next(2) == 0) {
                due(run, "load(" + a + ", " + tonnes + ")", x.load(a, tonnes), m.load(a, tonnes));
            }
        } else if (kind < 44) {
            int k = pick(0, 2);
            boolean on = next(2) == 0;
            if (next(2) == 0) {
                due(run, "support(" + k + ", " + on + ")", x.support(k, on), m.support(k, on));
            }
        } else {
            int day = next(8) == 0 ? edge(0, 40000) : m.lastDay() + pick(-5, 60);
            due(run, "end(" + day + ")", x.end(day), m.end(day));
        }
    }

    private static void change(int run, int kind) {
        int stage = aStage();
        int a = aPart();
        if (kind < 53) {
            int days = next(40) == 0 ? edge(-20000, 20000) : pick(-12, 12);
            due(run, "shift(" + stage + ", " + days + ")", x.shift(stage, days), m.shift(stage, days));
        } else if (kind < 54) {
            // in some runs stages seldom go, so that plans grow to their bounds
            if (next(run % 4 == 0 ? 2 : 8) == 0) {
                due(run, "redo(" + stage + ")", x.redo(stage), m.redo(stage));
            }
        } else if (kind < 58) {
            int level = next(3) == 0 ? edge(-1000000, 1000000) : pick(-100, 100);
            due(run, "survey(" + a + ", " + stage + ", " + level + ")", x.survey(a, stage, level), m.survey(a, stage, level));
        } else if (kind < 59) {
            int v = edge(0, 1000);
            due(run, "most(" + v + ")", x.most(v), m.most(v));
        } else {
            int what = pick(0, 2);
            int of = what == 2 ? pick(0, 2) : aPart();
            int low = edge(-200000, 10);
            int high = edge(-10, 200000);
            if (next(6) == 0) {
                due(run, "rule(" + what + ", " + of + ", " + low + ", " + high + ")",
                        x.rule(what, of, low, high), m.rule(what, of, low, high));
            }
        }
    }

    private static void ask(int run, int kind) {
        int stage = aStage();
        int a = aPart();
        if (kind < 72) {
            due(run, "level(" + a + ", " + stage + ")", x.level(a, stage), m.level(a, stage));
        } else if (kind < 80) {
            int what = pick(-1, 5);
            due(run, "of(" + a + ", " + what + ")", x.of(a, what), m.of(a, what));
        } else if (kind < 86) {
            int k = pick(0, 2);
            due(run, "carries(" + k + ", " + stage + ")", x.carries(k, stage), m.carries(k, stage));
        } else if (kind < 90) {
            int what = pick(0, 1);
            due(run, "broken(" + what + ")", x.broken(what), m.broken(what));
        } else if (kind < 92) {
            due(run, "check()", x.check(), m.check());
        } else if (kind < 95) {
            int k = pick(-1, 6);
            due(run, "order(" + k + ")", x.order(k), m.order(k));
        } else if (kind < 98) {
            int what = pick(-1, 6);
            due(run, "told(" + what + ")", x.told(what), m.told(what));
        } else if (bests < 4) {
            bests++;
            due(run, "best()", x.best(), m.best());
            for (int k = 0; k < 6; k++) {
                due(run, "order(" + k + ") behind best()", x.order(k), m.order(k));
            }
        }
    }
}
