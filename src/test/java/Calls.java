import java.util.Set;

/** The calls of the class by their names; a boolean answer, or argument, counts 1 or 0. */
final class Calls {
    private static final Set<String> TELL_TRUE = Set.of("part", "flex", "share", "release", "creep", "after", "add", "load",
            "support", "end", "most", "shift");

    private Calls() {
    }

    static long on(StageSteps x, String name, int... a) {
        switch (name) {
            case "part": return bit(x.part(a[0], a[1], a[2]));
            case "flex": return bit(x.flex(a[0], a[1], a[2], a[3]));
            case "share": return bit(x.share(a[0], a[1], a[2]));
            case "release": return bit(x.release(a[0], a[1], a[2]));
            case "creep": return bit(x.creep(a[0], a[1]));
            case "after": return bit(x.after(a[0], a[1]));
            case "stage": return x.stage(a[0]);
            case "add": return bit(x.add(a[0]));
            case "load": return bit(x.load(a[0], a[1]));
            case "support": return bit(x.support(a[0], a[1] == 1));
            case "end": return bit(x.end(a[0]));
            case "level": return x.level(a[0], a[1]);
            case "of": return x.of(a[0], a[1]);
            case "carries": return x.carries(a[0], a[1]);
            case "survey": return x.survey(a[0], a[1], a[2]);
            case "most": return bit(x.most(a[0]));
            case "rule": return x.rule(a[0], a[1], a[2], a[3]);
            case "broken": return x.broken(a[0]);
            case "shift": return bit(x.shift(a[0], a[1]));
            case "redo": return x.redo(a[0]);
            case "best": return x.best();
            case "order": return x.order(a[0]);
            case "told": return x.told(a[0]);
            case "check": return x.check();
            default: throw new IllegalArgumentException(name);
        }
    }

    /** What the document names for a call that is refused, or asks for what there is not. */
    static long refusal(String name) {
        return TELL_TRUE.contains(name) ? 0 : Due.NONE;
    }

    static String text(String name, int... a) {
        StringBuilder text = new StringBuilder(name).append('(');
        for (int k = 0; k < a.length; k++) {
            text.append(k == 0 ? "" : ", ").append(name.equals("support") && k == 1 ? String.valueOf(a[k] == 1) : a[k]);
        }
        return text.append(')').toString();
    }

    private static long bit(boolean answer) {
        return answer ? 1 : 0;
    }
}
