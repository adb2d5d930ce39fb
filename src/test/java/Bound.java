import java.util.function.Consumer;

/**
 * A sentence of the document that names a bound, and calls on both sides of it. Each call is made on an object of its own,
 * beside a twin that does not hear it; what later calls answer tells whether it changed anything.
 */
final class Bound {
    private final String sentence;
    private final int parts;
    private final Consumer<StageSteps> build;

    private Bound(String sentence, int parts, Consumer<StageSteps> build) {
        this.sentence = sentence;
        this.parts = parts;
        this.build = build;
    }

    static Bound of(int promise, String sentence, int parts, Consumer<StageSteps> build) {
        return new Bound(promise + ": " + sentence, parts, build);
    }

    /** The answer is the one that the document names, and nothing changed. */
    Bound refuses(String name, int... a) {
        return hear(false, Calls.refusal(name), name, a);
    }

    /** True, and later calls show it. */
    Bound takes(String name, int... a) {
        return hear(true, 1, name, a);
    }

    /** This answer, and later calls show that something changed. */
    Bound does(long due, String name, int... a) {
        return hear(true, due, name, a);
    }

    /** This answer, and nothing changed. */
    Bound tells(long due, String name, int... a) {
        return hear(false, due, name, a);
    }

    private Bound hear(boolean changes, long due, String name, int... a) {
        StageSteps told = make();
        String what = sentence + ": " + Calls.text(name, a);
        Due.is(what, Calls.on(told, name, a), due);
        boolean same = Later.of(told).equals(Later.of(make()));
        Due.is(what + ", later calls show a change", same ? 0 : 1, changes ? 1 : 0);
        return this;
    }

    private StageSteps make() {
        StageSteps x = new StageSteps(parts);
        build.accept(x);
        return x;
    }
}
