/** Promise by promise: ordinary calls, the edges that the document names, and wrong ones. */
public final class PromiseTest {
    private static final int BAD = -1, NO = -2, FULL = -3, NONE = -4;
    private static final int[] WRONG_BYTES = {-1, 256, Integer.MIN_VALUE, Integer.MAX_VALUE};
    private static final int[][] RANGES = {{0, 2}, {1, 200}, {1, 200}, {40, 250}, {0, 1}};
    private static final int[] AT_FIRST = {0, 2, 2, 100, 0};

    private static int promise = 0;
    private static int wrong = 0;

    private static void due(String call, int got, int want) {
        if (got != want) {
            wrong++;
            System.out.println("promise " + promise + ": " + call + " answered " + got + ", due is " + want);
        }
    }

    private static void dueState(CloningMachine x, int s, int... want) {
        for (int what = 0; what < want.length; what++) {
            due("state(" + s + ", " + what + ")", x.state(s, what), want[what]);
        }
    }

    private static void dueLive(CloningMachine x, int... want) {
        for (int what = 0; what < want.length; what++) {
            due("live(" + what + ")", x.live(what), want[what]);
        }
    }

    private static void dueCounts(CloningMachine x, int... want) {
        for (int what = 0; what < want.length; what++) {
            due("count(" + what + ")", x.count(what), want[what]);
        }
    }

    private static void dueRow(CloningMachine x, int row, int... want) {
        for (int i = 0; i < want.length; i++) {
            due("at(" + row + ", " + i + ")", x.at(row, i), want[i]);
        }
        due("at(" + row + ", " + want.length + ")", x.at(row, want.length), NONE);
    }

    private static void bits(CloningMachine x, String bits) {
        for (int i = 0; i < bits.length(); i++) {
            x.bit(bits.charAt(i) - '0');
        }
    }

    private static void write(CloningMachine x, int... bytes) {
        for (int v : bytes) {
            x.write(v);
        }
    }

    private static CloningMachine withSettings(int start, int first, int rest, int most, int order) {
        CloningMachine x = new CloningMachine();
        int[] told = {start, first, rest, most, order};
        for (int what = 0; what < told.length; what++) {
            x.set(what, told[what]);
        }
        return x;
    }

    /** 1100 by a LOOP with FIRST 1, REST 1: the last bit clones 0 of itself, (0, 1) of (2, 3). */
    private static CloningMachine clonedOnce(int order) {
        CloningMachine x = withSettings(0, 1, 1, 100, order);
        bits(x, "1100");
        return x;
    }

    /** 00001000 likewise: 1 is cloned of 0, 2 of 1, and nothing leads to 1 any more. */
    private static CloningMachine clonedTwice() {
        CloningMachine x = withSettings(0, 1, 1, 100, 0);
        bits(x, "00001000");
        return x;
    }

    private static void newObject() {
        CloningMachine x = new CloningMachine();
        dueCounts(x, 0, 2, 2, 100, 0, 0, 0, 0, 0);
        dueLive(x, 1, 0, 0, 0, 0, 2, 0, 0);
        dueState(x, 0, 1, 1, 0, 0, 2048, 2, 0, NONE);
        due("state(1, 0)", x.state(1, 0), BAD);
        for (int row = 0; row < 3; row++) {
            dueRow(x, row);
        }
        due("grew(0, 0)", x.grew(0, 0), NONE);
        due("grew(1, 0)", x.grew(1, 0), NONE);
        due("alike()", x.alike(), 0);
        due("back()", x.back(), NO);
        due("BAD", CloningMachine.BAD, BAD);
        due("NO", CloningMachine.NO, NO);
        due("FULL", CloningMachine.FULL, FULL);
        due("NONE", CloningMachine.NONE, NONE);
    }

    private static void set() {
        for (int what = 0; what < 5; what++) {
            setOne(what);
        }
        CloningMachine x = new CloningMachine();
        for (int what : new int[] {-1, 5, Integer.MIN_VALUE, Integer.MAX_VALUE}) {
            due("set(" + what + ", 1)", x.set(what, 1), BAD);
        }
        dueCounts(x, AT_FIRST);
    }

    private static void setOne(int what) {
        CloningMachine x = new CloningMachine();
        int least = RANGES[what][0];
        int most = RANGES[what][1];
        x.bit(1);
        for (int v : new int[] {least - 1, most + 1, Integer.MIN_VALUE, Integer.MAX_VALUE}) {
            due("set(" + what + ", " + v + ")", x.set(what, v), BAD);
        }
        due("set(" + what + ", as it is)", x.set(what, AT_FIRST[what]), NO);
        dueCounts(x, AT_FIRST);
        due("live(2) behind BAD and NO", x.live(2), 1);
        due("set(" + what + ", " + most + ")", x.set(what, most), AT_FIRST[what]);
        due("count(" + what + ")", x.count(what), most);
        due("live(2) behind other settings", x.live(2), 0);
        due("live(5) behind other settings", x.live(5), what == 0 ? 64 : 2);
        due("set(" + what + ", " + least + ")", x.set(what, least), most);
        due("count(" + what + ")", x.count(what), least);
    }

    private static void renew() {
        int[] states = {1, 15, 32};
        for (int start = 0; start < 3; start++) {
            CloningMachine x = withSettings(start, 1, 1, 40, 0);
            for (int i = 0; i < 40; i++) {
                x.take(97 + i % 3);
            }
            due("renew()", x.renew(), states[start]);
            dueLive(x, states[start], 0, 0, 0, 0, 2 * states[start], 0, 0);
            dueCounts(x, start, 1, 1, 40, 0);
        }
        shapes();
    }

    private static void shapes() {
        CloningMachine x = withSettings(1, 2, 2, 100, 0);
        dueState(x, 0, 1, 1, 1, 2, 2048, 16, 0, NONE);
        dueState(x, 6, 1, 1, 13, 14, 2048, 1, 0, NONE);
        dueState(x, 7, 1, 1, 0, 0, 2048, 1, 0, NONE);
        dueState(x, 14, 1, 1, 0, 0, 2048, 1, 0, NONE);
        due("state(15, 0)", x.state(15, 0), BAD);
        x.set(0, 2);
        dueState(x, 3, 1, 1, 14, 15, 2048, 2, 0, NONE);
        dueState(x, 4, 1, 1, 8, 9, 2048, 2, 0, NONE);
        dueState(x, 29, 1, 1, 2, 3, 2048, 2, 0, NONE);
        due("state(32, 0)", x.state(32, 0), BAD);
    }

    private static void write() {
        CloningMachine x = new CloningMachine();
        for (int v : WRONG_BYTES) {
            due("write(" + v + ")", x.write(v), BAD);
        }
        due("write(0)", x.write(0), 1);
        due("write(255)", x.write(255), 2);
        for (int n = 3; n <= 60; n++) {
            due("write(" + n + ")", x.write(n), n);
        }
        due("write(61)", x.write(61), FULL);
        due("write(256) when full", x.write(256), BAD);
        due("count(5)", x.count(5), 60);
        due("at(0, 0)", x.at(0, 0), 0);
        due("at(0, 1)", x.at(0, 1), 255);
        due("at(0, 59)", x.at(0, 59), 60);
    }

    private static void wipe() {
        CloningMachine x = new CloningMachine();
        due("wipe()", x.wipe(), 0);
        write(x, 1, 2, 3);
        int packBytes = x.pack();
        x.unpack(3);
        due("wipe()", x.wipe(), 3);
        dueRow(x, 0);
        due("count(6)", x.count(6), packBytes);
        due("count(7)", x.count(7), 3);
        due("write(7)", x.write(7), 1);
        dueRow(x, 0, 7);
    }

    private static void pack() {
        CloningMachine x = new CloningMachine();
        due("pack()", x.pack(), NO);
        // Zeros alone: chances 2048, 1536, 1228, 1024, 877, 768, 682, 614, no byte lost.
        x.write(0);
        due("pack()", x.pack(), 4);
        dueRow(x, 1, 236, 254, 7, 126);
        x.wipe();
        due("pack() of nothing", x.pack(), NO);
        dueRow(x, 1, 236, 254, 7, 126);
        x.write(255);
        due("pack()", x.pack(), 4);
        dueRow(x, 1, 0, 0, 0, 0);
        x.wipe();
        x.write(1);
        due("pack()", x.pack(), 4);
        dueRow(x, 1, 233, 163, 252, 253);
        x.wipe();
        x.write(128);
        x.set(4, 1);
        due("pack()", x.pack(), 4);
        dueRow(x, 1, 233, 163, 252, 253);
        due("live(2)", x.live(2), 0);
    }

    private static void unpack() {
        CloningMachine x = new CloningMachine();
        due("unpack(1)", x.unpack(1), NO);
        for (int n : new int[] {0, 61, -1, Integer.MIN_VALUE, Integer.MAX_VALUE}) {
            due("unpack(" + n + ")", x.unpack(n), BAD);
        }
        x.write(1);
        x.pack();
        due("unpack(1)", x.unpack(1), 4);
        dueRow(x, 2, 1);
        due("unpack(60)", x.unpack(60), 4);
        due("count(7)", x.count(7), 60);
        due("unpack(1)", x.unpack(1), 4);
        dueRow(x, 2, 1);
        x.set(4, 1);
        due("unpack(1) by the other order", x.unpack(1), 4);
        dueRow(x, 2, 128);
        due("unpack(0)", x.unpack(0), BAD);
        dueRow(x, 2, 128);
        due("count(5)", x.count(5), 1);
        everyShapeComesBack();
    }

    private static void everyShapeComesBack() {
        for (int k = 0; k < 3 * 2 * 4; k++) {
            CloningMachine x = withSettings(k % 3, 1 + k % 4, 1 + k % 4, 40, k % 2);
            for (int i = 0; i < 60; i++) {
                x.write((i * i * (k + 1) + 3 * i) & 255);
            }
            int n = x.pack();
            due("unpack(60) of run " + k, x.unpack(60), n);
            due("alike() of run " + k, x.alike(), 60);
            for (int what = 0; what < 3; what++) {
                due("grew(1, " + what + ") of run " + k, x.grew(1, what), x.grew(0, what));
            }
        }
    }

    private static void spoil() {
        CloningMachine x = new CloningMachine();
        due("spoil(0, 0)", x.spoil(0, 0), NONE);
        due("spoil(-1, 0)", x.spoil(-1, 0), BAD);
        due("spoil(0, 256)", x.spoil(0, 256), BAD);
        x.write(0);
        x.pack();
        for (int v : WRONG_BYTES) {
            due("spoil(0, " + v + ")", x.spoil(0, v), BAD);
            due("spoil(4, " + v + ")", x.spoil(4, v), BAD);
        }
        due("spoil(least, 0)", x.spoil(Integer.MIN_VALUE, 0), BAD);
        due("spoil(0, 236)", x.spoil(0, 236), NO);
        due("spoil(4, 0)", x.spoil(4, 0), NONE);
        due("spoil(greatest, 0)", x.spoil(Integer.MAX_VALUE, 0), NONE);
        dueRow(x, 1, 236, 254, 7, 126);
        due("spoil(0, 0)", x.spoil(0, 0), 236);
        due("spoil(3, 255)", x.spoil(3, 255), 126);
        dueRow(x, 1, 0, 254, 7, 255);
        x.unpack(1);
        due("at(2, 0) from a code spoilt to be low", x.at(2, 0), 255);
        x.pack();
        dueRow(x, 1, 236, 254, 7, 126);
    }

    private static void at() {
        CloningMachine x = new CloningMachine();
        write(x, 1, 128);
        x.pack();
        x.unpack(1);
        dueRow(x, 0, 1, 128);
        dueRow(x, 2, 1);
        due("at(1, as many as there are)", x.at(1, x.count(6)), NONE);
        for (int row = 0; row < 3; row++) {
            due("at(" + row + ", -1)", x.at(row, -1), BAD);
            due("at(" + row + ", least)", x.at(row, Integer.MIN_VALUE), BAD);
            due("at(" + row + ", greatest)", x.at(row, Integer.MAX_VALUE), NONE);
        }
        for (int row : new int[] {-1, 3, Integer.MIN_VALUE, Integer.MAX_VALUE}) {
            due("at(" + row + ", 0)", x.at(row, 0), BAD);
            due("at(" + row + ", 999)", x.at(row, 999), BAD);
        }
    }

    private static void alike() {
        CloningMachine x = new CloningMachine();
        write(x, 9, 8, 7, 6);
        due("alike()", x.alike(), 0);
        x.pack();
        x.unpack(2);
        due("alike()", x.alike(), 2);
        x.unpack(9);
        due("alike()", x.alike(), 4);
        x.wipe();
        due("alike()", x.alike(), 0);
        write(x, 9, 8, 0, 6);
        due("alike()", x.alike(), 2);
        x.wipe();
        write(x, 1, 8, 7, 6);
        due("alike()", x.alike(), 0);
        CloningMachine zero = new CloningMachine();
        zero.write(0);
        zero.pack();
        zero.unpack(1);
        due("alike()", zero.alike(), 1);
        zero.wipe();
        due("alike() without input", zero.alike(), 0);
    }

    private static void grew() {
        CloningMachine x = withSettings(0, 1, 1, 100, 0);
        for (int k : new int[] {-1, 3, Integer.MIN_VALUE, Integer.MAX_VALUE}) {
            due("grew(" + k + ", 0)", x.grew(k, 0), BAD);
            due("grew(0, " + k + ")", x.grew(0, k), BAD);
        }
        due("grew(2, 0)", x.grew(2, 0), BAD);
        due("grew(0, 0)", x.grew(0, 0), NONE);
        x.pack();
        x.unpack(1);
        due("grew(0, 0) behind NO", x.grew(0, 0), NONE);
        due("grew(1, 0) behind NO", x.grew(1, 0), NONE);
        // The bits of clonedTwice(): two states cloned.
        x.write(8);
        x.pack();
        due("grew(0, 0)", x.grew(0, 0), 3);
        due("grew(0, 1)", x.grew(0, 1), 2);
        due("grew(0, 2)", x.grew(0, 2), 0);
        due("grew(1, 0)", x.grew(1, 0), NONE);
        x.set(0, 2);
        x.unpack(1);
        due("grew(1, 0)", x.grew(1, 0), 32);
        due("grew(1, 1)", x.grew(1, 1), 0);
        x.wipe();
        x.renew();
        due("grew(0, 0) as it was", x.grew(0, 0), 3);
        grewAndDropped();
    }

    private static void grewAndDropped() {
        CloningMachine x = withSettings(2, 1, 1, 40, 0);
        CloningMachine live = withSettings(2, 1, 1, 40, 0);
        for (int i = 0; i < 60; i++) {
            x.write(97 + i % 2);
            live.take(97 + i % 2);
        }
        x.pack();
        x.unpack(60);
        due("that one was dropped", x.grew(0, 2) > 0 ? 1 : 0, 1);
        for (int by = 0; by < 2; by++) {
            due("grew(" + by + ", 0)", x.grew(by, 0), live.live(0));
            due("grew(" + by + ", 1)", x.grew(by, 1), live.live(3));
            due("grew(" + by + ", 2)", x.grew(by, 2), live.live(4));
        }
    }

    private static void bit() {
        CloningMachine x = withSettings(0, 1, 1, 100, 0);
        for (int b : new int[] {-1, 2, Integer.MIN_VALUE, Integer.MAX_VALUE}) {
            due("bit(" + b + ")", x.bit(b), BAD);
        }
        due("live(2)", x.live(2), 0);
        due("bit(1)", x.bit(1), 0);
        due("bit(1)", x.bit(1), 0);
        due("bit(0)", x.bit(0), 0);
        dueState(x, 0, 2, 3, 0, 0);
        due("bit(0)", x.bit(0), 1);
        dueState(x, 0, 3, 2, 1, 0);
        dueState(x, 1, 0, 1, 0, 0);
        neitherFirstNorRestAlone();
        droppedWhenFull();
        for (int start = 0; start < 3; start++) {
            growsToMost(start, 40);
            growsToMost(start, 250);
        }
    }

    /** Each cloning adds a state and each dropping comes with MOST of them, so the numbers add up. */
    private static void growsToMost(int start, int most) {
        CloningMachine x = withSettings(start, 1, 1, most, 0);
        int first = x.live(0);
        int drawn = 1;
        for (int i = 0; i < 480; i++) {
            drawn = drawn * 1103515245 + 12345;
            x.take((drawn >>> 16) & 255);
        }
        String where = " with START " + start + ", MOST " + most;
        due("that it was dropped" + where, x.live(4) > 0 ? 1 : 0, 1);
        due("live(2)" + where, x.live(2), 480 * 8);
        due("live(3)" + where, x.live(3), x.live(4) * (most - first) + x.live(0) - first);
    }

    private static void neitherFirstNorRestAlone() {
        // (3, 3) is HERE: c is 3, T less c is 3.
        int[][] firstRestStates = {{2, 2, 2}, {3, 2, 1}, {2, 3, 1}};
        for (int[] k : firstRestStates) {
            CloningMachine x = withSettings(0, k[0], k[1], 100, 0);
            bits(x, "01010");
            due("live(0) with FIRST " + k[0] + ", REST " + k[1], x.live(0), k[2]);
        }
    }

    private static void droppedWhenFull() {
        CloningMachine x = withSettings(2, 1, 1, 40, 0);
        int before = 0;
        int bits = 0;
        while (x.live(4) == 0 && bits < 400) {
            before = x.live(0);
            int here = x.bit((97 >> (7 - bits % 8)) & 1);
            bits++;
            due("HERE", here, x.live(1));
        }
        due("states ahead of the dropping", before, 40);
        dueLive(x, 32, 0, bits, 8, 1, 64, 0, 0);
        for (int s = 0; s < 32; s++) {
            due("state(" + s + ", 7)", x.state(s, 7), NONE);
        }
        due("state(32, 0)", x.state(32, 0), BAD);
    }

    private static void take() {
        CloningMachine x = withSettings(1, 2, 2, 100, 0);
        for (int v : WRONG_BYTES) {
            due("take(" + v + ")", x.take(v), BAD);
        }
        due("live(2)", x.live(2), 0);
        // 0101 0110: four bits to a leaf and back to 0, and again.
        due("take(86)", x.take(86), 0);
        due("live(2)", x.live(2), 8);
        dueState(x, 0, 3, 1);
        dueState(x, 1, 1, 3);
        dueState(x, 4, 2, 2);
        dueState(x, 9, 1, 2);
        dueState(x, 10, 2, 1);
        x.set(4, 1);
        // 0110 1010
        due("take(86)", x.take(86), 0);
        dueState(x, 0, 2, 2);
        dueState(x, 1, 1, 2);
        dueState(x, 2, 2, 1);
        x.set(0, 2);
        due("take(0)", x.take(0), 0);
        due("take(255)", x.take(255), 7);
    }

    private static void state() {
        CloningMachine x = clonedOnce(0);
        dueState(x, 0, 3, 2, 1, 0, 1706, 3, 0, NONE);
        dueState(x, 1, 0, 1, 0, 0, 3072, 3, 1, 0);
        for (int k : new int[] {-1, Integer.MIN_VALUE, Integer.MAX_VALUE}) {
            due("state(" + k + ", 0)", x.state(k, 0), BAD);
            due("state(0, " + k + ")", x.state(0, k), BAD);
        }
        due("state(2, 0)", x.state(2, 0), BAD);
        due("state(0, 8)", x.state(0, 8), BAD);
        CloningMachine y = clonedTwice();
        dueState(y, 0, 4, 1, 2, 0, 1024, 6, 0, NONE);
        dueState(y, 1, 2, 1, 0, 0, 1536, 0, 1, 0);
        dueState(y, 2, 2, 0, 0, 0, 682, 4, 2, 1);
        y.renew();
        due("state(2, 0)", y.state(2, 0), BAD);
    }

    private static void live() {
        dueLive(clonedOnce(0), 2, 1, 4, 1, 0, 6, 0, 1);
        CloningMachine x = clonedTwice();
        dueLive(x, 3, 2, 8, 2, 0, 10, 1, 2);
        x.take(0);
        due("live(2)", x.live(2), 16);
        for (int what : new int[] {-1, 8, Integer.MIN_VALUE, Integer.MAX_VALUE}) {
            due("live(" + what + ")", x.live(what), BAD);
        }
        due("live(2)", x.live(2), 16);
    }

    private static void likely() {
        CloningMachine x = clonedOnce(0);
        due("likely(0)", x.likely(0), 1);
        due("likely(1)", x.likely(1), 0);
        due("likely(2)", x.likely(2), 1);
        due("likely(63)", x.likely(63), 0);
        due("likely(64)", x.likely(64), 1);
        for (int n : new int[] {-1, 65, Integer.MIN_VALUE, Integer.MAX_VALUE}) {
            due("likely(" + n + ")", x.likely(n), BAD);
        }
        dueLive(x, 2, 1, 4, 1, 0, 6, 0, 1);
        CloningMachine tree = withSettings(1, 2, 2, 100, 0);
        due("likely(3) with counts alike", tree.likely(3), 7);
        tree.take(0xFF);
        due("likely(3) with more ones", tree.likely(3), 14);
        due("likely(4)", tree.likely(4), 0);
    }

    private static void guess() {
        due("guess()", new CloningMachine().guess(), 0);
        CloningMachine x = clonedOnce(0);
        due("guess()", x.guess(), 0xAA);
        due("guess() again", x.guess(), 0xAA);
        dueLive(x, 2, 1, 4, 1, 0, 6, 0, 1);
        due("guess() by the other order", clonedOnce(1).guess(), 0x55);
        CloningMachine tree = withSettings(1, 200, 200, 100, 0);
        tree.take(0x1D);
        tree.take(0x1D);
        tree.take(0xDD);
        due("guess()", tree.guess(), 0xDD);
    }

    private static void cost() {
        CloningMachine x = clonedOnce(0);
        due("cost(32768, 1)", x.cost(32768, 1), 1024);
        due("cost(0, 1)", x.cost(0, 1), 3072);
        due("cost(32768, 2)", x.cost(32768, 2), 1024 + 1706);
        due("cost(49152, 2)", x.cost(49152, 2), 1024 + 2390);
        due("cost(32767, 1)", x.cost(32767, 1), 3072);
        due("cost(43690, 16)", x.cost(43690, 16), 8 * (1024 + 1706));
        due("cost(65535, 16)", x.cost(65535, 16), 1024 + 15 * 2390);
        due("cost by the other order", clonedOnce(1).cost(32768, 2), 1024 + 1706);
        for (int v : new int[] {-1, 65536, Integer.MIN_VALUE, Integer.MAX_VALUE}) {
            due("cost(" + v + ", 1)", x.cost(v, 1), BAD);
        }
        for (int n : new int[] {0, 17, -1, Integer.MIN_VALUE, Integer.MAX_VALUE}) {
            due("cost(0, " + n + ")", x.cost(0, n), BAD);
        }
        dueLive(x, 2, 1, 4, 1, 0, 6, 0, 1);
    }

    private static void cheapest() {
        CloningMachine x = new CloningMachine();
        due("cheapest(0) of bytes that cost alike", x.cheapest(0), 0);
        due("cheapest(1) of bytes that cost alike", x.cheapest(1), 8 * 2048);
        for (int what : new int[] {-1, 2, Integer.MIN_VALUE, Integer.MAX_VALUE}) {
            due("cheapest(" + what + ")", x.cheapest(what), BAD);
        }
        // From 1: 1 costs 1024, 0 costs 3072; from 0: 0 costs 1706 and 1 2390.
        CloningMachine y = clonedOnce(0);
        due("cheapest(0)", y.cheapest(0), 0xAA);
        due("cheapest(1)", y.cheapest(1), 4 * (1024 + 1706));
        due("cheapest(0) by the other order", clonedOnce(1).cheapest(0), 0x55);
        due("cheapest(1) by the other order", clonedOnce(1).cheapest(1), 4 * (1024 + 1706));
        dueLive(y, 2, 1, 4, 1, 0, 6, 0, 1);
        CloningMachine ones = new CloningMachine();
        bits(ones, "1");
        due("cheapest(0) behind a 1", ones.cheapest(0), 255);
        due("cheapest(1) behind a 1", ones.cheapest(1), 8 * 1536);
        lowestOfSeveral(0);
        lowestOfSeveral(1);
    }

    /** In a BRAID of which little was seen many bytes cost alike. */
    private static void lowestOfSeveral(int order) {
        CloningMachine x = withSettings(2, 200, 200, 100, order);
        bits(x, "0110");
        int least = Integer.MAX_VALUE;
        int which = -1;
        for (int v = 255; v >= 0; v--) {
            int row = order == 0 ? v : Integer.reverse(v) >>> 24;
            int price = x.cost(row << 8, 8);
            if (price <= least) {
                least = price;
                which = v;
            }
        }
        due("cheapest(0) with order " + order, x.cheapest(0), which);
        due("cheapest(1) with order " + order, x.cheapest(1), least);
    }

    private static void keep() {
        CloningMachine x = new CloningMachine();
        due("keep()", x.keep(), 1);
        due("count(8)", x.count(8), 1);
        due("keep()", x.keep(), 2);
        due("keep()", x.keep(), FULL);
        due("count(8)", x.count(8), 2);
        x.back();
        due("keep()", x.keep(), 2);
        dueLive(x, 1, 0, 0, 0, 0, 2, 0, 0);
    }

    private static void back() {
        CloningMachine x = clonedTwice();
        write(x, 1, 2);
        int packBytes = x.pack();
        x.keep();
        x.set(0, 2);
        x.set(1, 9);
        x.set(2, 8);
        x.set(3, 77);
        x.set(4, 1);
        // 1100 0011: the last three bits tell the strand.
        x.take(195);
        x.keep();
        x.renew();
        x.write(3);
        x.unpack(5);
        due("back()", x.back(), 1);
        dueLive(x, 32, 3, 8, 0, 0, 72, 0, 0);
        dueCounts(x, 2, 9, 8, 77, 1, 3, packBytes, 5, 1);
        due("back()", x.back(), 0);
        dueLive(x, 3, 2, 8, 2, 0, 10, 1, 2);
        dueState(x, 0, 4, 1, 2, 0, 1024, 6, 0, NONE);
        dueState(x, 1, 2, 1, 0, 0, 1536, 0, 1, 0);
        dueState(x, 2, 2, 0, 0, 0, 682, 4, 2, 1);
        dueCounts(x, 0, 1, 1, 100, 0, 3, packBytes, 5, 0);
        due("back()", x.back(), NO);
        dueLive(x, 3, 2, 8, 2, 0, 10, 1, 2);
        keptStaysAsItWas();
    }

    private static void keptStaysAsItWas() {
        CloningMachine x = clonedTwice();
        x.keep();
        x.take(200);
        x.back();
        dueLive(x, 3, 2, 8, 2, 0, 10, 1, 2);
        CloningMachine same = clonedTwice();
        for (int i = 0; i < 50; i++) {
            due("take(" + i + ") behind back()", x.take(i), same.take(i));
        }
        CloningMachine dropped = withSettings(2, 1, 1, 40, 0);
        for (int i = 0; i < 40; i++) {
            dropped.take(97);
        }
        int drops = dropped.live(4);
        due("that it was dropped", drops > 0 ? 1 : 0, 1);
        dropped.keep();
        dropped.renew();
        dropped.back();
        due("live(4) behind back()", dropped.live(4), drops);
    }

    private static void count() {
        CloningMachine x = withSettings(1, 3, 4, 50, 1);
        write(x, 1, 2, 3);
        int packBytes = x.pack();
        x.unpack(7);
        x.keep();
        dueCounts(x, 1, 3, 4, 50, 1, 3, packBytes, 7, 1);
        x.wipe();
        x.back();
        dueCounts(x, 1, 3, 4, 50, 1, 0, packBytes, 7, 0);
        for (int what : new int[] {-1, 9, Integer.MIN_VALUE, Integer.MAX_VALUE}) {
            due("count(" + what + ")", x.count(what), BAD);
        }
    }

    private static void check(int number) {
        promise = number;
        switch (number) {
            case 1: newObject(); break;
            case 2: set(); break;
            case 3: renew(); break;
            case 4: write(); break;
            case 5: wipe(); break;
            case 6: pack(); break;
            case 7: unpack(); break;
            case 8: spoil(); break;
            case 9: at(); break;
            case 10: alike(); break;
            case 11: grew(); break;
            case 12: bit(); break;
            case 13: take(); break;
            case 14: state(); break;
            case 15: live(); break;
            case 16: likely(); break;
            case 17: guess(); break;
            case 18: cost(); break;
            case 19: cheapest(); break;
            case 20: keep(); break;
            case 21: back(); break;
            default: count(); break;
        }
    }

    public static void main(String[] args) {
        for (int number = 1; number <= 22; number++) {
            check(number);
        }
        System.out.println(wrong == 0 ? "all promises hold" : wrong + " answers are not as due");
        if (wrong != 0) {
            System.exit(1);
        }
    }
}
