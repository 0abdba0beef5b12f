/** An object of the program whose calls are counted: beyond the 512th nothing is promised. */
final class Used {
    static final int BAD = -1, NO = -2, FULL = -3, NONE = -4;
    private static final int CALLS_MOST = 512;

    private final CloningMachine machine = new CloningMachine();
    private int calls = 0;

    static Used by(int start, int first, int rest, int most, int order) {
        Used x = new Used();
        int[] told = {start, first, rest, most, order};
        for (int what = 0; what < told.length; what++) {
            x.then("set", what, told[what]);
        }
        return x;
    }

    /** 1100 by a LOOP with FIRST 1, REST 1: the last bit clones 0 of itself, (0, 1) of (2, 3). */
    static Used clonedOnce(int order) {
        return by(0, 1, 1, 100, order).bits("1100");
    }

    /** 00001000 likewise: 1 is cloned of 0, 2 of 1, and nothing leads to 1 any more. */
    static Used clonedTwice() {
        return by(0, 1, 1, 100, 0).bits("00001000");
    }

    /** With FIRST and REST 1, by bytes that are always the same: it has MOST states, and was not dropped yet. */
    static Used grownToMost(int start, int most) {
        Used probe = by(start, 1, 1, most, 0);
        int bytes = 0;
        while (bytes < 240 && probe.call("live", 4) == 0) {
            probe.take(mixed(bytes++));
        }
        Used x = by(start, 1, 1, most, 0);
        for (int i = 0; i < bytes - 1; i++) {
            x.take(mixed(i));
        }
        for (int k = 7; k >= 0 && x.call("live", 0) < most; k--) {
            x.then("bit", (mixed(bytes - 1) >> k) & 1);
        }
        return x.due(most, "live", 0).due(0, "live", 4);
    }

    static int mixed(int i) {
        return ((i + 1) * 0x9E3779B1) >>> 24;
    }

    int call(String name, int... a) {
        calls++;
        if (calls > CALLS_MOST) {
            Faults.tell("the test makes more calls than are promised");
        }
        return Calls.on(machine, name, a);
    }

    int callsLeft() {
        return CALLS_MOST - calls;
    }

    /** A call whose answer is not looked at. */
    Used then(String name, int... a) {
        call(name, a);
        return this;
    }

    Used due(int want, String name, int... a) {
        Faults.due("call " + (calls + 1) + ", " + Calls.shown(name, a) + ",", call(name, a), want);
        return this;
    }

    Used bits(String bits) {
        for (int i = 0; i < bits.length(); i++) {
            then("bit", bits.charAt(i) - '0');
        }
        return this;
    }

    Used write(int... bytes) {
        for (int v : bytes) {
            then("write", v);
        }
        return this;
    }

    Used take(int... bytes) {
        for (int v : bytes) {
            then("take", v);
        }
        return this;
    }

    Used takeTimes(int times, int v) {
        for (int i = 0; i < times; i++) {
            then("take", v);
        }
        return this;
    }

    /** THE PACK's first bytes become these, whatever they are. */
    Used spoil(int... bytes) {
        for (int i = 0; i < bytes.length; i++) {
            then("spoil", i, bytes[i]);
        }
        return this;
    }

    Used dueState(int s, int... want) {
        for (int what = 0; what < want.length; what++) {
            due(want[what], "state", s, what);
        }
        return this;
    }

    Used dueLive(int... want) {
        for (int what = 0; what < want.length; what++) {
            due(want[what], "live", what);
        }
        return this;
    }

    Used dueCounts(int... want) {
        for (int what = 0; what < want.length; what++) {
            due(want[what], "count", what);
        }
        return this;
    }

    /** The whole row, and none behind it. */
    Used dueRow(int row, int... want) {
        for (int i = 0; i < want.length; i++) {
            due(want[i], "at", row, i);
        }
        return due(NONE, "at", row, want.length);
    }
}
