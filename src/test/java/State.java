/** All that can be asked of an object without changing it, in one text. */
final class State {
    private State() {
    }

    static String of(StageSteps x) {
        StringBuilder text = new StringBuilder();
        for (int part = -1; part <= 6; part++) {
            for (int stage = -1; stage <= 12; stage++) {
                text.append(x.level(part, stage)).append(' ');
            }
            for (int what = -1; what <= 5; what++) {
                text.append(x.of(part, what)).append(' ');
            }
            text.append(x.order(part)).append('\n');
        }
        for (int k = -1; k <= 3; k++) {
            for (int stage = -1; stage <= 12; stage++) {
                text.append(x.carries(k, stage)).append(' ');
            }
        }
        for (int what = -1; what <= 6; what++) {
            text.append(x.told(what)).append(' ').append(x.broken(what)).append(' ');
        }
        return text.append(x.check()).toString();
    }
}
