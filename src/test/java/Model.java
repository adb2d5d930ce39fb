import java.util.ArrayList;
import java.util.HashMap;
import java.util.List;
import java.util.Map;
import java.util.TreeMap;

/** The document's words once more, as literally as they go and with none of the program's short cuts. */
final class Model {
    private static final long NONE = Due.NONE;
    private static final long MM = 1000000000L;

    private static final class Act {
        final char kind;
        final int what;
        final int tonnes;
        final int stage;

        Act(char kind, int what, int tonnes, int stage) {
            this.kind = kind;
            this.what = what;
            this.tonnes = tonnes;
            this.stage = stage;
        }
    }

    /** What one event makes each part go up, in millionths of a millimetre, and which parts were there. */
    private static final class Event {
        final int stage;
        final long[] up = new long[6];
        final boolean[] there;

        Event(int stage, boolean[] there) {
            this.stage = stage;
            this.there = there.clone();
        }
    }

    private static final class History {
        final List<Event> events = new ArrayList<>();
        final int[] addedIn = {-1, -1, -1, -1, -1, -1};
        final long[] carried = new long[3];
        boolean allowed = true;
    }

    private final int p;
    private final int[] weight = new int[6];
    private final int[] wanted = new int[6];
    private final Map<String, Integer> told = new HashMap<>();
    private final TreeMap<Integer, Integer> creeps = new TreeMap<>();
    private final boolean[][] follows = new boolean[6][6];
    private final List<Integer> days = new ArrayList<>();
    private final List<Act> acts = new ArrayList<>();
    private final List<int[]> rules = new ArrayList<>();
    private final long[] offset = new long[6];
    private List<Integer> found = new ArrayList<>();
    private Integer end;
    private int most = 5;

    Model(int parts) {
        p = parts < 2 ? 2 : parts > 6 ? 6 : parts;
    }

    private boolean isPart(int i) {
        return i >= 0 && i < p;
    }

    private static boolean isSupport(int k) {
        return k == 0 || k == 1 || k == 2;
    }

    private static boolean in(int v, int low, int high) {
        return low <= v && v <= high;
    }

    private int number(String name, int... at) {
        return told.getOrDefault(name + java.util.Arrays.toString(at), 0);
    }

    private boolean put(boolean fine, int v, String name, int... at) {
        if (fine && in(v, -1000, 1000)) {
            told.put(name + java.util.Arrays.toString(at), v);
            return true;
        }
        return false;
    }

    boolean part(int i, int w, int level) {
        if (!isPart(i) || !in(w, 0, 1000) || !in(level, -100000, 100000)) {
            return false;
        }
        weight[i] = w;
        wanted[i] = level;
        return true;
    }

    boolean flex(int state, int i, int j, int v) {
        return put(in(state, 0, 7) && isPart(i) && isPart(j), v, "flex", state, i, j);
    }

    boolean share(int support, int part, int v) {
        return put(isSupport(support) && isPart(part), v, "share", support, part);
    }

    boolean release(int support, int part, int v) {
        return put(isSupport(support) && isPart(part), v, "release", support, part);
    }

    boolean creep(int age, int v) {
        if (!in(age, 0, 20000) || !in(v, 0, 5000) || creeps.size() == 8) {
            return false;
        }
        if (!creeps.isEmpty() && (age <= creeps.lastKey() || v < creeps.lastEntry().getValue())) {
            return false;
        }
        creeps.put(age, v);
        return true;
    }

    private boolean comesAfter(int later, int first) {
        for (int between = 0; between < p; between++) {
            if (follows[later][between] && (between == first || comesAfter(between, first))) {
                return true;
            }
        }
        return false;
    }

    boolean after(int a, int b) {
        if (!isPart(a) || !isPart(b) || a == b || comesAfter(a, b)) {
            return false;
        }
        List<Integer> row = row();
        if (row.contains(b) && (!row.contains(a) || row.indexOf(a) > row.indexOf(b))) {
            return false;
        }
        follows[b][a] = true;
        return true;
    }

    private void looseEnd() {
        if (end != null && (days.isEmpty() || days.get(days.size() - 1) > end)) {
            end = null;
        }
    }

    long stage(int day) {
        if (!in(day, 0, 20000) || days.size() == 12 || !days.isEmpty() && day <= days.get(days.size() - 1)) {
            return NONE;
        }
        days.add(day);
        looseEnd();
        return days.size() - 1;
    }

    private boolean act(boolean fine, char kind, int what, int tonnes) {
        if (!fine || days.isEmpty() || acts.size() == 40) {
            return false;
        }
        acts.add(new Act(kind, what, tonnes, days.size() - 1));
        return true;
    }

    boolean add(int part) {
        boolean fine = isPart(part) && !row().contains(part);
        for (int other = 0; fine && other < p; other++) {
            fine = !follows[part][other] || row().contains(other);
        }
        return act(fine, 'a', part, 0);
    }

    boolean load(int part, int tonnes) {
        return act(isPart(part) && row().contains(part) && in(tonnes, -1000, 1000), 'l', part, tonnes);
    }

    boolean support(int k, boolean on) {
        return act(isSupport(k) && isOn(k) != on, on ? '+' : '-', k, 0);
    }

    private boolean isOn(int k) {
        boolean on = false;
        for (Act act : acts) {
            if (act.what == k && (act.kind == '+' || act.kind == '-')) {
                on = act.kind == '+';
            }
        }
        return on;
    }

    boolean end(int day) {
        if (days.isEmpty() || day < days.get(days.size() - 1) || day > 40000) {
            return false;
        }
        end = day;
        return true;
    }

    int lastDay() {
        return days.isEmpty() ? 0 : days.get(days.size() - 1);
    }

    private int endDay() {
        return end != null ? end : days.get(days.size() - 1);
    }

    private List<Integer> row() {
        List<Integer> row = new ArrayList<>();
        for (Act act : acts) {
            if (act.kind == 'a') {
                row.add(act.what);
            }
        }
        return row;
    }

    private long creepAt(int age) {
        Map.Entry<Integer, Integer> entry = creeps.floorEntry(age);
        return entry == null ? 0 : entry.getValue();
    }

    private History history(List<Integer> row, int lastStage) {
        History h = new History();
        boolean[] there = new boolean[6];
        boolean[] on = new boolean[3];
        int next = 0;
        for (Act act : acts) {
            if (act.stage > lastStage) {
                break;
            }
            if (act.kind == '+') {
                on[act.what] = true;
            } else if (act.kind == '-') {
                Event e = new Event(act.stage, there);
                for (int i = 0; i < p; i++) {
                    e.up[i] = Math.multiplyExact(h.carried[act.what], (long) number("release", act.what, i));
                }
                h.events.add(e);
                h.carried[act.what] = 0;
                on[act.what] = false;
            } else {
                int part = act.what;
                if (act.kind == 'a') {
                    part = row.get(next++);
                    there[part] = true;
                    h.addedIn[part] = act.stage;
                }
                h.allowed &= there[part];
                press(h, new Event(act.stage, there), part, act.kind == 'a' ? weight[part] : act.tonnes, on);
            }
        }
        return h;
    }

    private void press(History h, Event e, int part, int tonnes, boolean[] on) {
        int state = (on[0] ? 1 : 0) + (on[1] ? 2 : 0) + (on[2] ? 4 : 0);
        for (int i = 0; i < p; i++) {
            e.up[i] = 1000L * tonnes * number("flex", state, i, part);
        }
        for (int k = 0; k < 3; k++) {
            h.carried[k] += on[k] ? (long) tonnes * number("share", k, part) : 0;
        }
        h.events.add(e);
    }

    private long rise(History h, int part, int day) {
        long sum = 0;
        for (Event e : h.events) {
            int since = days.get(e.stage);
            long crept = Math.multiplyExact(e.up[part], creepAt(day - since));
            if (e.there[part]) {
                sum = Math.addExact(sum, Math.addExact(1000 * e.up[part], crept));
            } else {
                int added = days.get(h.addedIn[part]);
                sum = Math.addExact(sum, crept - e.up[part] * creepAt(added - since));
            }
        }
        return sum;
    }

    private long camber(List<Integer> row, int part) {
        return -rise(history(row, 11), part, endDay());
    }

    private long cast(int part) {
        return wanted[part] * MM + camber(row(), part) + offset[part];
    }

    private int addedIn(int part) {
        return history(row(), 11).addedIn[part];
    }

    private boolean isThere(int part, int stage) {
        return isPart(part) && in(stage, 0, days.size() - 1) && in(addedIn(part), 0, stage);
    }

    long level(int part, int stage) {
        return isThere(part, stage) ? cast(part) + rise(history(row(), stage), part, days.get(stage)) : NONE;
    }

    long of(int part, int what) {
        if (!isPart(part) || !row().contains(part) || !in(what, 0, 4)) {
            return NONE;
        }
        long camber = camber(row(), part);
        return new long[] {cast(part), camber, offset[part], -camber, addedIn(part)}[what];
    }

    long carries(int support, int stage) {
        return isSupport(support) && in(stage, 0, days.size() - 1) ? history(row(), stage).carried[support] : NONE;
    }

    long survey(int part, int stage, int level) {
        if (!isThere(part, stage) || !in(level, -1000000, 1000000)) {
            return NONE;
        }
        long error = level * MM - level(part, stage);
        int times = 0;
        for (int later : row()) {
            if (addedIn(later) > stage) {
                times++;
                long size = Math.max(0, Math.abs(error) - times * most * MM);
                offset[later] = error < 0 ? -size : size;
            }
        }
        return error;
    }

    boolean most(int v) {
        most = in(v, 0, 1000) ? v : most;
        return in(v, 0, 1000);
    }

    long rule(int kind, int of, int low, int high) {
        boolean fine = kind == 0 && isPart(of) || kind == 1 && isPart(of) && of != p - 1 || kind == 2 && isSupport(of);
        if (!fine || low > high || rules.size() == 8) {
            return NONE;
        }
        rules.add(new int[] {kind, of, low, high});
        return rules.size() - 1;
    }

    private boolean holds(int[] rule, int stage) {
        int of = rule[1];
        long unit = rule[0] == 2 ? 1000 : MM;
        if (rule[0] < 2 && !isThere(of, stage) || rule[0] == 1 && !isThere(of + 1, stage)) {
            return true;
        }
        long value = rule[0] == 2 ? carries(of, stage) : level(of, stage) - (rule[0] == 1 ? level(of + 1, stage) : 0);
        return rule[2] * unit <= value && value <= rule[3] * unit;
    }

    long broken(int what) {
        for (int stage = 0; stage < days.size(); stage++) {
            for (int k = 0; k < rules.size(); k++) {
                if (!holds(rules.get(k), stage)) {
                    return what == 0 ? stage : what == 1 ? k : NONE;
                }
            }
        }
        return NONE;
    }

    boolean shift(int stage, int by) {
        if (!in(stage, 0, days.size() - 1)) {
            return false;
        }
        for (int s = stage; s < days.size(); s++) {
            long day = (long) days.get(s) + by;
            if (day < 0 || day > 20000 || s == stage && s > 0 && day <= days.get(s - 1)) {
                return false;
            }
        }
        for (int s = stage; s < days.size(); s++) {
            days.set(s, days.get(s) + by);
        }
        looseEnd();
        return true;
    }

    long redo(int stage) {
        if (!in(stage, 0, days.size() - 1)) {
            return NONE;
        }
        long gone = 0;
        while (!acts.isEmpty() && acts.get(acts.size() - 1).stage >= stage) {
            Act act = acts.remove(acts.size() - 1);
            gone++;
            if (act.kind == 'a') {
                offset[act.what] = 0;
            }
        }
        while (days.size() > stage) {
            days.remove(days.size() - 1);
        }
        looseEnd();
        return gone;
    }

    /** All rows of the parts, in no order that matters; the least is chosen by comparing whole rows. */
    private void rows(List<Integer> left, List<Integer> row, List<List<Integer>> all) {
        if (left.isEmpty()) {
            all.add(new ArrayList<>(row));
        }
        for (int part : left) {
            List<Integer> others = new ArrayList<>(left);
            others.remove((Integer) part);
            row.add(part);
            rows(others, row, all);
            row.remove(row.size() - 1);
        }
    }

    private boolean isAllowed(List<Integer> row) {
        for (int a : row) {
            for (int b : row) {
                if (follows[b][a] && row.indexOf(b) < row.indexOf(a)) {
                    return false;
                }
            }
        }
        return history(row, 11).allowed;
    }

    private static boolean isBefore(List<Integer> one, List<Integer> other) {
        for (int k = 0; k < one.size(); k++) {
            if (!one.get(k).equals(other.get(k))) {
                return one.get(k) < other.get(k);
            }
        }
        return false;
    }

    long best() {
        List<List<Integer>> all = new ArrayList<>();
        rows(row(), new ArrayList<>(), all);
        long least = NONE;
        for (List<Integer> row : all) {
            if (row.isEmpty() || !isAllowed(row)) {
                continue;
            }
            History h = history(row, 11);
            long greatest = 0;
            for (int part : row) {
                greatest = Math.max(greatest, Math.abs(rise(h, part, endDay())));
            }
            if (least == NONE || greatest < least || greatest == least && isBefore(row, found)) {
                least = greatest;
                found = row;
            }
        }
        return least;
    }

    long order(int k) {
        return k >= 0 && k < found.size() ? found.get(k) : NONE;
    }

    long told(int what) {
        int on = (isOn(0) ? 1 : 0) + (isOn(1) ? 2 : 0) + (isOn(2) ? 4 : 0);
        long end = days.isEmpty() ? NONE : endDay();
        long[] answers = {days.size(), acts.size(), row().size(), on, rules.size(), end};
        return what >= 0 && what < answers.length ? answers[what] : NONE;
    }

    int check() {
        return 1;
    }
}
