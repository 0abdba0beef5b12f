import java.math.BigInteger;
import java.util.ArrayList;
import java.util.List;

/**
 * The document once more, in another way than the program has it: objects for
 * states, big numbers for the span, everything reckoned when asked. Whoever wrote
 * both may have misread the document in both.
 */
final class PlainModel {
    static final int BAD = -1, NO = -2, FULL = -3, NONE = -4;

    static final class State {
        int number;
        int[] count = {1, 1};
        State[] next = new State[2];
        State clonedOf;
    }

    static final class Grown {
        final int[] settings;
        List<State> states;
        State here;
        int taken, cloned, dropped;

        Grown(int[] settings) {
            this.settings = settings.clone();
            shape();
        }

        void shape() {
            int[] sizes = {1, 15, 32};
            states = new ArrayList<>();
            for (int i = 0; i < sizes[settings[0]]; i++) {
                addState();
            }
            for (State s : states) {
                for (int b = 0; b < 2; b++) {
                    s.next[b] = states.get(firstNext(s.number, b));
                }
            }
            here = states.get(0);
        }

        State addState() {
            State s = new State();
            s.number = states.size();
            states.add(s);
            return s;
        }

        int firstNext(int k, int b) {
            switch (settings[0]) {
                case 0:
                    return 0;
                case 1:
                    return 2 * k + 1 + b < 15 ? 2 * k + 1 + b : 0;
                default:
                    int l = k >> 3;
                    int w = k & 7;
                    return 8 * ((l + 1) & 3) + ((2 * w + b) & 7);
            }
        }

        void takes(int b) {
            taken++;
            State s = here;
            State t = s.next[b];
            int c = s.count[b];
            int both = t.count[0] + t.count[1];
            if (c > settings[1] && both - c > settings[2]) {
                if (states.size() == settings[3]) {
                    dropped++;
                    shape();
                    return;
                }
                cloned++;
                State u = addState();
                u.clonedOf = t;
                u.next = t.next.clone();
                for (int i = 0; i < 2; i++) {
                    u.count[i] = t.count[i] * c / both;
                    t.count[i] -= u.count[i];
                }
                s.next[b] = u;
            }
            s.count[b]++;
            here = s.next[b];
        }

        Grown copy() {
            Grown g = new Grown(settings);
            g.states = new ArrayList<>();
            for (int i = 0; i < states.size(); i++) {
                g.addState();
            }
            for (State s : states) {
                State mine = g.states.get(s.number);
                mine.count = s.count.clone();
                mine.clonedOf = s.clonedOf == null ? null : g.states.get(s.clonedOf.number);
                for (int b = 0; b < 2; b++) {
                    mine.next[b] = g.states.get(s.next[b].number);
                }
            }
            g.here = g.states.get(here.number);
            g.taken = taken;
            g.cloned = cloned;
            g.dropped = dropped;
            return g;
        }

        int flow(State t) {
            int sum = 0;
            for (State s : states) {
                for (int b = 0; b < 2; b++) {
                    sum += s.next[b] == t ? s.count[b] : 0;
                }
            }
            return sum;
        }
    }

    static int chance(State s) {
        int parts = (2 * s.count[1] + 1) * 4096 / (2 * (s.count[0] + s.count[1]) + 2);
        return parts < 1 ? 1 : parts > 4095 ? 4095 : parts;
    }

    static int line(State s) {
        int n = 0;
        for (State o = s.clonedOf; o != null; o = o.clonedOf) {
            n++;
        }
        return n;
    }

    static int likelyBit(State s) {
        return s.count[0] >= s.count[1] ? 0 : 1;
    }

    static int costOf(State s, List<Integer> bits) {
        int sum = 0;
        for (int b : bits) {
            sum += b == 1 ? 4096 - chance(s) : 4096 - (4096 - chance(s));
            s = s.next[b];
        }
        return sum;
    }

    static final BigInteger RANGE = BigInteger.ONE.shiftLeft(32);
    static final BigInteger TOP = BigInteger.ONE.shiftLeft(24);

    static BigInteger big(long v) {
        return BigInteger.valueOf(v);
    }

    int[] settings = {0, 2, 2, 100, 0};
    Grown live = new Grown(settings);
    List<Integer> input = new ArrayList<>();
    List<Integer> pack = new ArrayList<>();
    List<Integer> unpacked = new ArrayList<>();
    Grown packedBy, unpackedBy;
    // How often a bit was packed or unpacked in a span of less than 4096: MIDDLE is LOW then.
    int tight = 0;
    List<Grown> kept = new ArrayList<>();

    List<Integer> bitsOf(int v) {
        List<Integer> bits = new ArrayList<>();
        for (int k = 0; k < 8; k++) {
            bits.add(settings[4] == 0 ? v / (1 << (7 - k)) % 2 : v / (1 << k) % 2);
        }
        return bits;
    }

    int byteOf(List<Integer> bits) {
        int v = 0;
        for (int k = 0; k < 8; k++) {
            v += bits.get(k) * (settings[4] == 0 ? 1 << (7 - k) : 1 << k);
        }
        return v;
    }

    int set(int what, int v) {
        int[][] told = {{0, 2}, {1, 200}, {1, 200}, {40, 250}, {0, 1}};
        if (what < 0 || what > 4 || v < told[what][0] || v > told[what][1]) {
            return BAD;
        }
        int was = settings[what];
        if (was == v) {
            return NO;
        }
        settings[what] = v;
        live = new Grown(settings);
        return was;
    }

    int renew() {
        live = new Grown(settings);
        return live.states.size();
    }

    int write(int v) {
        if (v < 0 || v > 255) {
            return BAD;
        }
        if (input.size() == 60) {
            return FULL;
        }
        input.add(v);
        return input.size();
    }

    int wipe() {
        int had = input.size();
        input.clear();
        return had;
    }

    int pack() {
        if (input.isEmpty()) {
            return NO;
        }
        packedBy = new Grown(settings);
        pack = new ArrayList<>();
        BigInteger low = BigInteger.ZERO;
        BigInteger high = RANGE.subtract(BigInteger.ONE);
        for (int v : input) {
            for (int b : bitsOf(v)) {
                tight += high.subtract(low).compareTo(big(4096)) < 0 ? 1 : 0;
                BigInteger middle = high.subtract(low).divide(big(4096)).multiply(big(chance(packedBy.here))).add(low);
                if (b == 1) {
                    high = middle;
                } else {
                    low = middle.add(BigInteger.ONE);
                }
                while (low.divide(TOP).equals(high.divide(TOP))) {
                    pack.add(low.divide(TOP).intValue());
                    low = low.mod(TOP).multiply(big(256));
                    high = high.mod(TOP).multiply(big(256)).add(big(255));
                }
                packedBy.takes(b);
            }
        }
        for (int shift = 24; shift >= 0; shift -= 8) {
            pack.add(low.shiftRight(shift).intValue() & 255);
        }
        return pack.size();
    }

    int unpack(int n) {
        if (n < 1 || n > 60) {
            return BAD;
        }
        if (pack.isEmpty()) {
            return NO;
        }
        unpackedBy = new Grown(settings);
        unpacked = new ArrayList<>();
        BigInteger low = BigInteger.ZERO;
        BigInteger high = RANGE.subtract(BigInteger.ONE);
        BigInteger code = BigInteger.ZERO;
        int came = 0;
        while (came < 4) {
            code = code.multiply(big(256)).add(big(packOrZero(came++)));
        }
        for (int i = 0; i < n; i++) {
            List<Integer> bits = new ArrayList<>();
            while (bits.size() < 8) {
                tight += high.subtract(low).compareTo(big(4096)) < 0 ? 1 : 0;
                BigInteger middle = high.subtract(low).divide(big(4096)).multiply(big(chance(unpackedBy.here))).add(low);
                int b = code.compareTo(middle) <= 0 ? 1 : 0;
                if (b == 1) {
                    high = middle;
                } else {
                    low = middle.add(BigInteger.ONE);
                }
                while (low.divide(TOP).equals(high.divide(TOP))) {
                    low = low.mod(TOP).multiply(big(256));
                    high = high.mod(TOP).multiply(big(256)).add(big(255));
                    code = code.mod(TOP).multiply(big(256)).add(big(packOrZero(came++)));
                }
                unpackedBy.takes(b);
                bits.add(b);
            }
            unpacked.add(byteOf(bits));
        }
        return came > pack.size() ? pack.size() : came;
    }

    int packOrZero(int i) {
        return i < pack.size() ? pack.get(i) : 0;
    }

    int spoil(int i, int v) {
        if (i < 0 || v < 0 || v > 255) {
            return BAD;
        }
        if (i >= pack.size()) {
            return NONE;
        }
        if (pack.get(i) == v) {
            return NO;
        }
        return pack.set(i, v);
    }

    int at(int row, int i) {
        if (row < 0 || row > 2 || i < 0) {
            return BAD;
        }
        List<Integer> bytes = List.of(input, pack, unpacked).get(row);
        return i < bytes.size() ? bytes.get(i) : NONE;
    }

    int alike() {
        int n = 0;
        for (int i = 0; i < unpacked.size() && i < input.size(); i++) {
            if (!unpacked.get(i).equals(input.get(i))) {
                break;
            }
            n++;
        }
        return n;
    }

    int grew(int by, int what) {
        if (by < 0 || by > 1 || what < 0 || what > 2) {
            return BAD;
        }
        Grown g = by == 0 ? packedBy : unpackedBy;
        if (g == null) {
            return NONE;
        }
        return new int[] {g.states.size(), g.cloned, g.dropped}[what];
    }

    int bit(int b) {
        if (b != 0 && b != 1) {
            return BAD;
        }
        live.takes(b);
        return live.here.number;
    }

    int take(int v) {
        if (v < 0 || v > 255) {
            return BAD;
        }
        for (int b : bitsOf(v)) {
            live.takes(b);
        }
        return live.here.number;
    }

    int state(int s, int what) {
        if (s < 0 || s >= live.states.size() || what < 0 || what > 7) {
            return BAD;
        }
        State x = live.states.get(s);
        int of = x.clonedOf == null ? NONE : x.clonedOf.number;
        return new int[] {x.count[0], x.count[1], x.next[0].number, x.next[1].number,
            chance(x), live.flow(x), line(x), of}[what];
    }

    int live(int what) {
        if (what < 0 || what > 7) {
            return BAD;
        }
        int all = 0;
        int dry = 0;
        int longest = 0;
        for (State s : live.states) {
            all += s.count[0] + s.count[1];
            dry += live.flow(s) == 0 ? 1 : 0;
            longest = Math.max(longest, line(s));
        }
        return new int[] {live.states.size(), live.here.number, live.taken, live.cloned, live.dropped,
            all, dry, longest}[what];
    }

    int likely(int n) {
        if (n < 0 || n > 64) {
            return BAD;
        }
        State s = live.here;
        for (int k = 0; k < n; k++) {
            s = s.next[likelyBit(s)];
        }
        return s.number;
    }

    int guess() {
        State s = live.here;
        List<Integer> bits = new ArrayList<>();
        for (int k = 0; k < 8; k++) {
            int b = likelyBit(s);
            bits.add(b);
            s = s.next[b];
        }
        return byteOf(bits);
    }

    int cost(int v, int n) {
        if (v < 0 || v > 65535 || n < 1 || n > 16) {
            return BAD;
        }
        List<Integer> bits = new ArrayList<>();
        for (int k = 0; k < n; k++) {
            bits.add(v / (1 << (15 - k)) % 2);
        }
        return costOf(live.here, bits);
    }

    int cheapest(int what) {
        if (what != 0 && what != 1) {
            return BAD;
        }
        int best = 255;
        for (int v = 255; v >= 0; v--) {
            if (costOf(live.here, bitsOf(v)) <= costOf(live.here, bitsOf(best))) {
                best = v;
            }
        }
        return what == 0 ? best : costOf(live.here, bitsOf(best));
    }

    int keep() {
        if (kept.size() == 2) {
            return FULL;
        }
        kept.add(live.copy());
        return kept.size();
    }

    int back() {
        if (kept.isEmpty()) {
            return NO;
        }
        live = kept.remove(kept.size() - 1);
        settings = live.settings.clone();
        return kept.size();
    }

    int count(int what) {
        if (what < 0 || what > 8) {
            return BAD;
        }
        if (what < 5) {
            return settings[what];
        }
        return new int[] {input.size(), pack.size(), unpacked.size(), kept.size()}[what - 5];
    }
}
