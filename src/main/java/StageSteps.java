import java.util.Arrays;

/** A bridge that is built by stages: what goes up, what creeps, how high each part must be cast. */
public final class StageSteps {
    public static final long NONE = -1000000000000000000L;

    private static final int FEWEST_PARTS = 2;
    private static final int MAX_PARTS = 6;
    private static final int SUPPORTS = 3;
    private static final int STATES = 8;
    private static final int MAX_STAGES = 12;
    private static final int MAX_ACTS = 40;
    private static final int MAX_CREEPS = 8;
    private static final int MAX_RULES = 8;
    private static final int LAST_DAY = 20000;
    private static final int LAST_END_DAY = 40000;

    private static final int ADD = 0;
    private static final int LOAD = 1;
    private static final int PUT_ON = 2;
    private static final int TAKE_OFF = 3;

    private static final int PART_LEVEL = 0;
    private static final int STEP_TO_NEXT = 1;
    private static final int SUPPORT_LOAD = 2;

    /** What the document tells levels in: so many of them are a millimetre. */
    private static final long MILLIMETRE = 1000000000L;
    private static final long TONNE = 1000L;

    private final Givens givens;
    private final Creeps creeps = new Creeps();
    private final Plan plan = new Plan();
    private final Rules rules = new Rules();
    private final Walk walk;
    private final Search search;
    private final long[] offsets = new long[MAX_PARTS];
    private final long[] casts = new long[MAX_PARTS];
    private int mostMillimetres = 5;

    public StageSteps(int parts) {
        givens = new Givens(Math.max(FEWEST_PARTS, Math.min(MAX_PARTS, parts)));
        walk = new Walk(givens, creeps, plan);
        search = new Search(givens, plan, walk);
    }

    public boolean part(int i, int weight, int wanted) {
        if (!givens.hasPart(i) || !within(weight, 0, 1000) || !within(wanted, -100000, 100000)) {
            return false;
        }
        givens.weights[i] = weight;
        givens.wanted[i] = wanted;
        return true;
    }

    public boolean flex(int state, int i, int j, int v) {
        if (!within(state, 0, STATES - 1) || !givens.hasPart(i) || !givens.hasPart(j) || !isFactor(v)) {
            return false;
        }
        givens.flexes[state][i * MAX_PARTS + j] = v;
        return true;
    }

    public boolean share(int support, int part, int v) {
        if (!isSupport(support) || !givens.hasPart(part) || !isFactor(v)) {
            return false;
        }
        givens.shares[support][part] = v;
        return true;
    }

    public boolean release(int support, int part, int v) {
        if (!isSupport(support) || !givens.hasPart(part) || !isFactor(v)) {
            return false;
        }
        givens.releases[support][part] = v;
        return true;
    }

    public boolean creep(int age, int v) {
        return creeps.tell(age, v);
    }

    public boolean after(int a, int b) {
        if (!givens.hasPart(a) || !givens.hasPart(b) || a == b || givens.mustFollow(a, b)) {
            return false;
        }
        int placeOfA = plan.placeOf(a);
        int placeOfB = plan.placeOf(b);
        if (placeOfB >= 0 && (placeOfA < 0 || placeOfA > placeOfB)) {
            return false;
        }
        givens.follow(a, b);
        return true;
    }

    public long stage(int day) {
        if (!plan.takesStage(day)) {
            return NONE;
        }
        return plan.openStage(day);
    }

    public boolean add(int part) {
        if (!givens.hasPart(part) || !plan.takesPart(part) || !givens.mayFollow(part, plan.partBits())) {
            return false;
        }
        plan.putPart(part);
        return true;
    }

    public boolean load(int part, int tonnes) {
        if (!plan.hasRoom() || !givens.hasPart(part) || plan.placeOf(part) < 0 || !within(tonnes, -1000, 1000)) {
            return false;
        }
        plan.putAct(LOAD, part, tonnes);
        return true;
    }

    public boolean support(int k, boolean on) {
        if (!plan.hasRoom() || !isSupport(k) || hasBit(plan.onBits(), k) == on) {
            return false;
        }
        plan.putAct(on ? PUT_ON : TAKE_OFF, k, 0);
        return true;
    }

    public boolean end(int day) {
        if (plan.stages == 0 || day < plan.lastDay() || day > LAST_END_DAY) {
            return false;
        }
        plan.toldEnd = day;
        return true;
    }

    public long level(int part, int stage) {
        if (!isThere(part, stage)) {
            return NONE;
        }
        return levelThen(part, stage);
    }

    public long of(int part, int what) {
        if (!givens.hasPart(part) || plan.placeOf(part) < 0) {
            return NONE;
        }
        castAll();
        switch (what) {
            case 0:
                return casts[part];
            case 1:
                return -walk.rises[part];
            case 2:
                return offsets[part];
            case 3:
                return walk.rises[part];
            case 4:
                return plan.stageOf(part);
            default:
                return NONE;
        }
    }

    public long carries(int support, int stage) {
        if (!isSupport(support) || !plan.hasStage(stage)) {
            return NONE;
        }
        walkTo(stage);
        return walk.carried[support];
    }

    public long survey(int part, int stage, int level) {
        if (!isThere(part, stage) || !within(level, -1000000, 1000000)) {
            return NONE;
        }
        long error = level * MILLIMETRE - levelThen(part, stage);
        spread(error, stage);
        return error;
    }

    public boolean most(int v) {
        if (!within(v, 0, 1000)) {
            return false;
        }
        mostMillimetres = v;
        return true;
    }

    public long rule(int kind, int of, int low, int high) {
        if (!isRuled(kind, of) || low > high || rules.count >= MAX_RULES) {
            return NONE;
        }
        return rules.put(kind, of, low, high);
    }

    public long broken(int what) {
        if (what != 0 && what != 1) {
            return NONE;
        }
        castAll();
        for (int stage = 0; stage < plan.stages; stage++) {
            walkTo(stage);
            int number = firstBroken(stage);
            if (number >= 0) {
                return what == 0 ? stage : number;
            }
        }
        return NONE;
    }

    public boolean shift(int stage, int days) {
        if (!plan.canMove(stage, days)) {
            return false;
        }
        plan.move(stage, days);
        return true;
    }

    public long redo(int stage) {
        if (!plan.hasStage(stage)) {
            return NONE;
        }
        for (int part = 0; part < givens.parts; part++) {
            if (plan.stageOf(part) >= stage) {
                offsets[part] = 0;
            }
        }
        return plan.cutFrom(stage);
    }

    public long best() {
        if (plan.adds == 0) {
            return NONE;
        }
        return search.leastGreatest();
    }

    public long order(int k) {
        if (!within(k, 0, search.foundCount - 1)) {
            return NONE;
        }
        return search.found[k];
    }

    public long told(int what) {
        switch (what) {
            case 0:
                return plan.stages;
            case 1:
                return plan.acts;
            case 2:
                return plan.adds;
            case 3:
                return plan.onBits();
            case 4:
                return rules.count;
            case 5:
                return plan.stages == 0 ? NONE : plan.endDay();
            default:
                return NONE;
        }
    }

    public int check() {
        castAll();
        for (int part = 0; part < givens.parts; part++) {
            long due = givens.wanted[part] * MILLIMETRE + offsets[part];
            if (plan.placeOf(part) >= 0 && heightNow(part) != due) {
                return 0;
            }
        }
        return 1;
    }

    private static boolean within(int v, int low, int high) {
        return v >= low && v <= high;
    }

    private static boolean isFactor(int v) {
        return within(v, -1000, 1000);
    }

    private static boolean isSupport(int k) {
        return within(k, 0, SUPPORTS - 1);
    }

    private static boolean hasBit(int bits, int k) {
        return (bits >> k & 1) == 1;
    }

    private boolean isThere(int part, int stage) {
        if (!givens.hasPart(part) || !plan.hasStage(stage)) {
            return false;
        }
        int added = plan.stageOf(part);
        return added >= 0 && added <= stage;
    }

    private boolean isRuled(int kind, int of) {
        switch (kind) {
            case PART_LEVEL:
                return givens.hasPart(of);
            case STEP_TO_NEXT:
                return within(of, 0, givens.parts - 2);
            case SUPPORT_LOAD:
                return isSupport(of);
            default:
                return false;
        }
    }

    /** Leaves the rises to the end day in the walk, too. */
    private void castAll() {
        walk.aim(plan.stages - 1, plan.endDay());
        walk.go(plan.row);
        for (int part = 0; part < givens.parts; part++) {
            casts[part] = givens.wanted[part] * MILLIMETRE - walk.rises[part] + offsets[part];
        }
    }

    private void walkTo(int stage) {
        walk.aim(stage, plan.days[stage]);
        walk.go(plan.row);
    }

    private long levelThen(int part, int stage) {
        castAll();
        walkTo(stage);
        return heightNow(part);
    }

    /** On the day to which the latest walk went; needs the casts. */
    private long heightNow(int part) {
        return casts[part] + walk.rises[part];
    }

    private void spread(long error, int stage) {
        long less = 0;
        for (int k = 0; k < plan.adds; k++) {
            if (plan.addStages[k] > stage) {
                less += mostMillimetres * MILLIMETRE;
                offsets[plan.row[k]] = towardsZero(error, less);
            }
        }
    }

    private static long towardsZero(long v, long less) {
        return v < 0 ? Math.min(0, v + less) : Math.max(0, v - less);
    }

    private int firstBroken(int stage) {
        for (int number = 0; number < rules.count; number++) {
            if (isBroken(number, stage)) {
                return number;
            }
        }
        return -1;
    }

    private boolean isBroken(int number, int stage) {
        int of = rules.ofs[number];
        switch (rules.kinds[number]) {
            case PART_LEVEL:
                return isThere(of, stage) && !rules.allows(number, heightNow(of), MILLIMETRE);
            case STEP_TO_NEXT:
                return isThere(of, stage) && isThere(of + 1, stage)
                        && !rules.allows(number, heightNow(of) - heightNow(of + 1), MILLIMETRE);
            default:
                return !rules.allows(number, walk.carried[of], TONNE);
        }
    }

    /** What is told of the parts and supports, apart from the plan. */
    private static final class Givens {
        final int parts;
        final int[] weights = new int[MAX_PARTS];
        final int[] wanted = new int[MAX_PARTS];
        final int[][] flexes = new int[STATES][MAX_PARTS * MAX_PARTS];
        final int[][] shares = new int[SUPPORTS][MAX_PARTS];
        final int[][] releases = new int[SUPPORTS][MAX_PARTS];
        /** For each part, by bits, all that it must come after, over others, too. */
        final int[] befores = new int[MAX_PARTS];

        Givens(int parts) {
            this.parts = parts;
        }

        boolean hasPart(int i) {
            return within(i, 0, parts - 1);
        }

        boolean mustFollow(int part, int other) {
            return hasBit(befores[part], other);
        }

        boolean mayFollow(int part, int there) {
            return (befores[part] & ~there) == 0;
        }

        void follow(int a, int b) {
            int more = befores[a] | 1 << a;
            for (int part = 0; part < parts; part++) {
                if (part == b || mustFollow(part, b)) {
                    befores[part] |= more;
                }
            }
        }
    }

    /** Creep by age. */
    private static final class Creeps {
        final int[] ages = new int[MAX_CREEPS];
        final int[] values = new int[MAX_CREEPS];
        int count;

        boolean tell(int age, int v) {
            if (count >= MAX_CREEPS || !within(age, 0, LAST_DAY) || !within(v, 0, 5000)) {
                return false;
            }
            if (count > 0 && (age <= ages[count - 1] || v < values[count - 1])) {
                return false;
            }
            ages[count] = age;
            values[count] = v;
            count++;
            return true;
        }

        int at(int age) {
            int value = 0;
            for (int k = 0; k < count && ages[k] <= age; k++) {
                value = values[k];
            }
            return value;
        }
    }

    /** The stages and their acts; which part an ADD takes stands in a row apart, so that other rows can be tried. */
    private static final class Plan {
        final int[] days = new int[MAX_STAGES];
        final int[] kinds = new int[MAX_ACTS];
        final int[] whats = new int[MAX_ACTS];
        final int[] tonnes = new int[MAX_ACTS];
        final int[] actStages = new int[MAX_ACTS];
        final int[] row = new int[MAX_PARTS];
        final int[] addStages = new int[MAX_PARTS];
        int stages;
        int acts;
        int adds;
        /** Below 0 when it is not told. */
        int toldEnd = -1;

        boolean hasStage(int stage) {
            return within(stage, 0, stages - 1);
        }

        boolean hasRoom() {
            return stages > 0 && acts < MAX_ACTS;
        }

        int lastDay() {
            return stages > 0 ? days[stages - 1] : 0;
        }

        int endDay() {
            return Math.max(lastDay(), toldEnd);
        }

        boolean takesStage(int day) {
            return stages < MAX_STAGES && within(day, 0, LAST_DAY) && (stages == 0 || day > lastDay());
        }

        int openStage(int day) {
            days[stages] = day;
            stages++;
            forgetPassedEnd();
            return stages - 1;
        }

        boolean takesPart(int part) {
            return hasRoom() && adds < MAX_PARTS && placeOf(part) < 0;
        }

        void putPart(int part) {
            row[adds] = part;
            addStages[adds] = stages - 1;
            adds++;
            putAct(ADD, part, 0);
        }

        void putAct(int kind, int what, int weight) {
            kinds[acts] = kind;
            whats[acts] = what;
            tonnes[acts] = weight;
            actStages[acts] = stages - 1;
            acts++;
        }

        int placeOf(int part) {
            for (int k = 0; k < adds; k++) {
                if (row[k] == part) {
                    return k;
                }
            }
            return -1;
        }

        int stageOf(int part) {
            int place = placeOf(part);
            return place < 0 ? -1 : addStages[place];
        }

        int partBits() {
            int bits = 0;
            for (int k = 0; k < adds; k++) {
                bits |= 1 << row[k];
            }
            return bits;
        }

        int onBits() {
            int bits = 0;
            for (int a = 0; a < acts; a++) {
                if (kinds[a] == PUT_ON) {
                    bits |= 1 << whats[a];
                } else if (kinds[a] == TAKE_OFF) {
                    bits &= ~(1 << whats[a]);
                }
            }
            return bits;
        }

        boolean canMove(int stage, int by) {
            // a step beyond all days is refused first, so that no sum wraps around
            if (!hasStage(stage) || !within(by, -LAST_DAY, LAST_DAY)) {
                return false;
            }
            int first = days[stage] + by;
            int floor = stage == 0 ? 0 : days[stage - 1] + 1;
            return first >= floor && lastDay() + by <= LAST_DAY;
        }

        void move(int stage, int by) {
            for (int s = stage; s < stages; s++) {
                days[s] += by;
            }
            forgetPassedEnd();
        }

        int cutFrom(int stage) {
            int before = acts;
            while (acts > 0 && actStages[acts - 1] >= stage) {
                acts--;
            }
            while (adds > 0 && addStages[adds - 1] >= stage) {
                adds--;
            }
            stages = stage;
            if (stages == 0) {
                toldEnd = -1;
            }
            return before - acts;
        }

        private void forgetPassedEnd() {
            if (lastDay() > toldEnd) {
                toldEnd = -1;
            }
        }
    }

    /** Goes through the plan's events up to a stage, and sums what they make each part rise to a day. */
    private static final class Walk {
        final Givens givens;
        final Creeps creeps;
        final Plan plan;
        final long[] rises = new long[MAX_PARTS];
        final long[] carried = new long[SUPPORTS];
        /** The stage in which the walked row adds a part; below 0 when it does not. */
        final int[] addedIn = new int[MAX_PARTS];
        /** Creep from a stage's day to the day that is aimed at. */
        final int[] creepTo = new int[MAX_STAGES];
        /** Creep to a stage's day (first) from that of an earlier one. */
        final int[][] creepFrom = new int[MAX_STAGES][MAX_STAGES];
        int lastStage;
        int there;
        int on;

        Walk(Givens givens, Creeps creeps, Plan plan) {
            this.givens = givens;
            this.creeps = creeps;
            this.plan = plan;
        }

        /** Looks up all creeps once: a search walks many rows to the same day. */
        void aim(int stage, int day) {
            lastStage = stage;
            for (int s = 0; s < plan.stages; s++) {
                creepTo[s] = creeps.at(day - plan.days[s]);
                for (int e = 0; e <= s; e++) {
                    creepFrom[s][e] = creeps.at(plan.days[s] - plan.days[e]);
                }
            }
        }

        /** False: a load is on a part that is not there. */
        boolean go(int[] row) {
            begin(row);
            int added = 0;
            for (int a = 0; a < plan.acts && plan.actStages[a] <= lastStage; a++) {
                int stage = plan.actStages[a];
                int what = plan.whats[a];
                switch (plan.kinds[a]) {
                    case ADD:
                        // there before its weight presses: an added part goes up by that, too
                        there |= 1 << row[added];
                        press(stage, row[added], givens.weights[row[added]]);
                        added++;
                        break;
                    case LOAD:
                        if (!hasBit(there, what)) {
                            return false;
                        }
                        press(stage, what, plan.tonnes[a]);
                        break;
                    case PUT_ON:
                        on |= 1 << what;
                        break;
                    default:
                        letGo(stage, what);
                        break;
                }
            }
            return true;
        }

        /** Of the parts that the walked row adds. */
        long greatestSize() {
            long greatest = 0;
            for (int part = 0; part < givens.parts; part++) {
                if (addedIn[part] >= 0) {
                    greatest = Math.max(greatest, Math.abs(rises[part]));
                }
            }
            return greatest;
        }

        private void begin(int[] row) {
            Arrays.fill(rises, 0);
            Arrays.fill(carried, 0);
            Arrays.fill(addedIn, -1);
            there = 0;
            on = 0;
            for (int k = 0; k < plan.adds; k++) {
                addedIn[row[k]] = plan.addStages[k];
            }
        }

        private void press(int stage, int part, int tonnes) {
            for (int i = 0; i < givens.parts; i++) {
                lift(stage, i, tonnes * 1000L * givens.flexes[on][i * MAX_PARTS + part]);
            }
            for (int k = 0; k < SUPPORTS; k++) {
                if (hasBit(on, k)) {
                    carried[k] += tonnes * givens.shares[k][part];
                }
            }
        }

        private void letGo(int stage, int support) {
            for (int i = 0; i < givens.parts; i++) {
                lift(stage, i, carried[support] * givens.releases[support][i]);
            }
            carried[support] = 0;
            on &= ~(1 << support);
        }

        /** The height is in millionths of a millimetre, so that creep's thousandths of it are whole. */
        private void lift(int stage, int i, long height) {
            if (hasBit(there, i)) {
                rises[i] += height * (1000 + creepTo[stage]);
            } else if (addedIn[i] >= 0) {
                rises[i] += height * (creepTo[stage] - creepFrom[addedIn[i]][stage]);
            }
        }
    }

    /** The rules, by their numbers. */
    private static final class Rules {
        final int[] kinds = new int[MAX_RULES];
        final int[] ofs = new int[MAX_RULES];
        final int[] lows = new int[MAX_RULES];
        final int[] highs = new int[MAX_RULES];
        int count;

        int put(int kind, int of, int low, int high) {
            kinds[count] = kind;
            ofs[count] = of;
            lows[count] = low;
            highs[count] = high;
            count++;
            return count - 1;
        }

        boolean allows(int number, long value, long unit) {
            return value >= lows[number] * unit && value <= highs[number] * unit;
        }
    }

    /** Tries the allowed orders of the plan's parts, the first in the order of rows first. */
    private static final class Search {
        final Givens givens;
        final Plan plan;
        final Walk walk;
        final int[] tried = new int[MAX_PARTS];
        final int[] found = new int[MAX_PARTS];
        int foundCount;
        /** Below 0 as long as no order is found. */
        long least;

        Search(Givens givens, Plan plan, Walk walk) {
            this.givens = givens;
            this.plan = plan;
            this.walk = walk;
        }

        long leastGreatest() {
            least = -1;
            walk.aim(plan.stages - 1, plan.endDay());
            tryFrom(0, plan.partBits(), 0);
            return least;
        }

        /** Which parts the row takes, and has, are bits. */
        private void tryFrom(int k, int taken, int used) {
            if (k >= plan.adds || k >= MAX_PARTS) {
                if (walk.go(tried)) {
                    keepIfLess(walk.greatestSize());
                }
                return;
            }
            for (int part = 0; part < givens.parts; part++) {
                if (hasBit(taken & ~used, part) && givens.mayFollow(part, used)) {
                    tried[k] = part;
                    tryFrom(k + 1, taken, used | 1 << part);
                }
            }
        }

        /** Only a lesser one takes the place: of equal ones the first row stays. */
        private void keepIfLess(long size) {
            if (least < 0 || size < least) {
                least = size;
                foundCount = plan.adds;
                System.arraycopy(tried, 0, found, 0, plan.adds);
            }
        }
    }
}
