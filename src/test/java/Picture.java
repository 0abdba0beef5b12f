import java.util.function.Consumer;

/**
 * All that can be seen of an object that stands somehow. It takes more calls than an
 * object is used for, so each piece is seen on an object of its own, made alike.
 */
final class Picture {
    private static final int STATES_A_PIECE = 30;

    /** What was hidden behind the first look: what is KEPT, and how things go on. */
    enum Later {
        AT_ONCE, BACK_ONCE, BACK_TWICE, PACKING, TAKING, RENEWED;

        void go(Used x) {
            switch (this) {
                case BACK_ONCE:
                    x.then("back");
                    break;
                case BACK_TWICE:
                    x.then("back").then("back");
                    break;
                case PACKING:
                    x.then("pack").then("unpack", 9);
                    break;
                case TAKING:
                    x.take(97, 200, 3).bits("10");
                    break;
                case RENEWED:
                    x.then("renew").take(97);
                    break;
                default:
                    break;
            }
        }
    }

    private Picture() {
    }

    static String of(Standing standing, Consumer<Used> deed, Later later) {
        StringBuilder text = new StringBuilder();
        Used x = made(standing, deed, later);
        int states = x.call("live", 0);
        addLooks(text, x);
        for (int from = 0; from < states; from += STATES_A_PIECE) {
            addStates(text, made(standing, deed, later), from, Math.min(states, from + STATES_A_PIECE));
        }
        return text.toString();
    }

    private static Used made(Standing standing, Consumer<Used> deed, Later later) {
        Used x = standing.made();
        deed.accept(x);
        later.go(x);
        return x;
    }

    private static void addLooks(StringBuilder text, Used x) {
        for (int what = 0; what < 8; what++) {
            add(text, x, "live", what);
        }
        for (int what = 0; what < 9; what++) {
            add(text, x, "count", what);
        }
        for (int k = 0; k < 6; k++) {
            add(text, x, "grew", k / 3, k % 3);
        }
        add(text, x, "alike");
        add(text, x, "guess");
        add(text, x, "likely", 64);
        add(text, x, "cost", 0xA5C3, 16);
        add(text, x, "cheapest", 0);
        add(text, x, "cheapest", 1);
        for (int row = 0; row < 3; row++) {
            int length = x.call("count", 5 + row);
            for (int i = 0; i <= length; i++) {
                add(text, x, "at", row, i);
            }
        }
    }

    private static void addStates(StringBuilder text, Used x, int from, int behind) {
        for (int s = from; s < behind; s++) {
            for (int what = 0; what < 8; what++) {
                add(text, x, "state", s, what);
            }
        }
    }

    private static void add(StringBuilder text, Used x, String name, int... a) {
        text.append(Calls.shown(name, a)).append(' ').append(x.call(name, a)).append('\n');
    }
}
