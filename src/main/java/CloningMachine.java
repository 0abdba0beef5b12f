/**
 * A machine of states joined by bits that grows while it packs, with a live
 * machine beside it that takes bits one by one. What each call promises stands
 * in the project's document.
 */
public final class CloningMachine {
    public static final int BAD = -1, NO = -2, FULL = -3, NONE = -4;

    private static final int START = 0, FIRST = 1, REST = 2, MOST = 3, ORDER = 4;
    private static final int[] LEAST_SETTING = {0, 1, 1, 40, 0};
    private static final int[] GREATEST_SETTING = {2, 200, 200, 250, 1};
    private static final int[] SETTING_AT_FIRST = {0, 2, 2, 100, 0};

    private static final int TREE = 1, BRAID = 2;
    private static final int TREE_STATES = 15;
    private static final int BRAID_LAYERS = 4, BRAID_WIDTH = 8;
    private static final int STATES_ROOM = 250;
    private static final int PARTS = 4096;

    private static final int BYTE_BITS = 8, COST_BITS = 16;
    private static final int HIGHEST_BYTE = 255, HIGHEST_COST_ROW = 65535;
    private static final int LIKELY_MOST = 64;
    private static final int CODE_BYTES = 4;
    private static final long CODE_RANGE = 4294967296L, TOP_BYTE = 16777216L;

    private static final int INPUT_MOST = 60;
    // A bit narrows the span to one number at the least: then all its bytes come out.
    private static final int PACK_ROOM = INPUT_MOST * BYTE_BITS * CODE_BYTES + CODE_BYTES;
    private static final int KEPT_MOST = 2;

    private final Settings settings = new Settings();
    private final Machine running = new Machine(settings);
    private final Bytes input = new Bytes(INPUT_MOST);
    private final Bytes packed = new Bytes(PACK_ROOM);
    private final Bytes unpacked = new Bytes(INPUT_MOST);
    private final Packer packer = new Packer(settings, packed);
    private final Unpacker unpacker = new Unpacker(settings, packed);
    private final Kept keptFirst = new Kept();
    private final Kept keptSecond = new Kept();
    private int keptNumber = 0;

    public CloningMachine() {
    }

    // ---- settings

    public int set(int what, int v) {
        if (!Settings.allows(what, v)) {
            return BAD;
        }
        int before = settings.get(what);
        if (before == v) {
            return NO;
        }
        settings.tell(what, v);
        running.begin();
        return before;
    }

    public int renew() {
        running.begin();
        return running.states;
    }

    // ---- packing

    public int write(int v) {
        if (!isByte(v)) {
            return BAD;
        }
        if (input.length() >= INPUT_MOST) {
            return FULL;
        }
        input.add(v);
        return input.length();
    }

    public int wipe() {
        int before = input.length();
        input.clear();
        return before;
    }

    public int pack() {
        if (input.length() == 0) {
            return NO;
        }
        packer.open();
        for (int i = 0; i < input.length(); i++) {
            packer.packByte(input.get(i));
        }
        packer.close();
        return packed.length();
    }

    public int unpack(int n) {
        if (n < 1 || n > INPUT_MOST) {
            return BAD;
        }
        if (packed.length() == 0) {
            return NO;
        }
        unpacker.open();
        unpacked.clear();
        for (int i = 0; i < n; i++) {
            unpacked.add(unpacker.unpackByte());
        }
        return unpacker.bytesRead();
    }

    public int spoil(int i, int v) {
        if (i < 0 || !isByte(v)) {
            return BAD;
        }
        if (i >= packed.length()) {
            return NONE;
        }
        int before = packed.get(i);
        if (before == v) {
            return NO;
        }
        packed.put(i, v);
        return before;
    }

    public int at(int row, int i) {
        if (row < 0 || row > 2 || i < 0) {
            return BAD;
        }
        Bytes bytes = row == 0 ? input : row == 1 ? packed : unpacked;
        return i < bytes.length() ? bytes.get(i) : NONE;
    }

    public int alike() {
        int shorter = Math.min(input.length(), unpacked.length());
        int same = 0;
        while (same < shorter && input.get(same) == unpacked.get(same)) {
            same++;
        }
        return same;
    }

    public int grew(int by, int what) {
        if (by < 0 || by > 1 || what < 0 || what > 2) {
            return BAD;
        }
        boolean used = by == 0 ? packer.used : unpacker.used;
        if (!used) {
            return NONE;
        }
        Machine machine = by == 0 ? packer.machine : unpacker.machine;
        return what == 0 ? machine.states : what == 1 ? machine.clonings : machine.drops;
    }

    // ---- the live machine

    public int bit(int b) {
        if (b < 0 || b > 1) {
            return BAD;
        }
        running.feed(b);
        return running.here;
    }

    public int take(int v) {
        if (!isByte(v)) {
            return BAD;
        }
        int bits = settings.turned(v);
        for (int k = 0; k < BYTE_BITS; k++) {
            running.feed(bitFromHighest(bits, BYTE_BITS, k));
        }
        return running.here;
    }

    public int state(int s, int what) {
        if (s < 0 || s >= running.states) {
            return BAD;
        }
        switch (what) {
            case 0:
            case 1:
                return running.countBy(s, what);
            case 2:
            case 3:
                return running.nextBy(s, what - 2);
            case 4:
                return running.chance(s);
            case 5:
                return running.flowInto(s);
            case 6:
                return running.lineOf(s);
            case 7:
                return running.originOf(s);
            default:
                return BAD;
        }
    }

    public int live(int what) {
        switch (what) {
            case 0:
                return running.states;
            case 1:
                return running.here;
            case 2:
                return running.taken;
            case 3:
                return running.clonings;
            case 4:
                return running.drops;
            case 5:
                return running.allCounts();
            case 6:
                return running.statesWithoutFlow();
            case 7:
                return running.longestLine();
            default:
                return BAD;
        }
    }

    public int likely(int n) {
        if (n < 0 || n > LIKELY_MOST) {
            return BAD;
        }
        int s = running.here;
        for (int k = 0; k < n; k++) {
            s = running.nextBy(s, running.likelyBit(s));
        }
        return s;
    }

    public int guess() {
        int s = running.here;
        int bits = 0;
        for (int k = 0; k < BYTE_BITS; k++) {
            int b = running.likelyBit(s);
            bits = 2 * bits + b;
            s = running.nextBy(s, b);
        }
        return settings.turned(bits);
    }

    public int cost(int v, int n) {
        if (v < 0 || v > HIGHEST_COST_ROW || n < 1 || n > COST_BITS) {
            return BAD;
        }
        return running.costOf(v, COST_BITS, n);
    }

    public int cheapest(int what) {
        if (what < 0 || what > 1) {
            return BAD;
        }
        int which = 0;
        int least = costOfByte(0);
        for (int v = 1; v <= HIGHEST_BYTE; v++) {
            int price = costOfByte(v);
            if (price < least) {
                which = v;
                least = price;
            }
        }
        return what == 0 ? which : least;
    }

    // ---- kept

    public int keep() {
        if (keptNumber >= KEPT_MOST) {
            return FULL;
        }
        Kept place = keptPlace(keptNumber);
        place.settings.copyFrom(settings);
        place.machine.copyFrom(running);
        keptNumber++;
        return keptNumber;
    }

    public int back() {
        if (keptNumber <= 0) {
            return NO;
        }
        keptNumber--;
        Kept place = keptPlace(keptNumber);
        settings.copyFrom(place.settings);
        running.copyFrom(place.machine);
        return keptNumber;
    }

    public int count(int what) {
        switch (what) {
            case START:
            case FIRST:
            case REST:
            case MOST:
            case ORDER:
                return settings.get(what);
            case 5:
                return input.length();
            case 6:
                return packed.length();
            case 7:
                return unpacked.length();
            case 8:
                return keptNumber;
            default:
                return BAD;
        }
    }

    private Kept keptPlace(int i) {
        return i == 0 ? keptFirst : keptSecond;
    }

    private int costOfByte(int v) {
        return running.costOf(settings.turned(v), BYTE_BITS, BYTE_BITS);
    }

    private static boolean isByte(int v) {
        return v >= 0 && v <= HIGHEST_BYTE;
    }

    private static int bitFromHighest(int bits, int width, int k) {
        return (bits >> (width - 1 - k)) & 1;
    }

    private static int cutQuotient(long part, long whole) {
        return whole > 0 ? (int) (part / whole) : 0;
    }

    /** Numbers at places 0, 1, ..: the one class that touches an array's index. */
    private static final class Row {
        private final int[] cells;

        Row(int length) {
            cells = new int[Math.max(0, length)];
        }

        int get(int i) {
            return i >= 0 && i < cells.length ? cells[i] : 0;
        }

        void put(int i, int v) {
            if (i >= 0 && i < cells.length) {
                cells[i] = v;
            }
        }

        void copyFrom(Row other, int length) {
            for (int i = 0; i < length; i++) {
                put(i, other.get(i));
            }
        }
    }

    /** Bytes that come one behind the other, as many as there is room for. */
    private static final class Bytes {
        private final Row row;
        private final int room;
        private int length = 0;

        Bytes(int room) {
            this.room = room;
            row = new Row(room);
        }

        int length() {
            return length;
        }

        int get(int i) {
            return i < length ? row.get(i) : 0;
        }

        void put(int i, int v) {
            row.put(i, v);
        }

        void add(int v) {
            if (length < room) {
                row.put(length, v);
                length++;
            }
        }

        void clear() {
            length = 0;
        }
    }

    /** START, FIRST, REST, MOST and ORDER. */
    private static final class Settings {
        private final Row values = new Row(SETTING_AT_FIRST.length);

        Settings() {
            for (int i = 0; i < SETTING_AT_FIRST.length; i++) {
                values.put(i, SETTING_AT_FIRST[i]);
            }
        }

        static boolean allows(int what, int v) {
            return what >= 0 && what < LEAST_SETTING.length && what < GREATEST_SETTING.length
                    && v >= LEAST_SETTING[what] && v <= GREATEST_SETTING[what];
        }

        int get(int what) {
            return values.get(what);
        }

        void tell(int what, int v) {
            values.put(what, v);
        }

        void copyFrom(Settings other) {
            values.copyFrom(other.values, SETTING_AT_FIRST.length);
        }

        /**
         * A byte with that bit highest which comes first by ORDER. Turned twice it
         * is as it was, so this serves bytes going in and bytes coming out.
         */
        int turned(int v) {
            if (get(ORDER) == 0) {
                return v;
            }
            int bits = 0;
            for (int k = 0; k < BYTE_BITS; k++) {
                bits = 2 * bits + ((v >> k) & 1);
            }
            return bits;
        }
    }

    /** States with counts and nexts by bit; a path is a state with a bit. */
    private static final class Machine {
        private final Settings settings;
        private final Row counts = new Row(2 * STATES_ROOM);
        private final Row nexts = new Row(2 * STATES_ROOM);
        private final Row origins = new Row(STATES_ROOM);
        private final Row lines = new Row(STATES_ROOM);
        private final Row flows = new Row(STATES_ROOM);
        private int states;
        private int here;
        private int taken;
        private int clonings;
        private int drops;

        Machine(Settings settings) {
            this.settings = settings;
            begin();
        }

        void begin() {
            taken = 0;
            clonings = 0;
            drops = 0;
            shapeAnew();
        }

        /** What is told of the machine's life stays: dropping it comes here, too. */
        private void shapeAnew() {
            int start = settings.get(START);
            states = statesAtFirst(start);
            here = 0;
            for (int s = 0; s < states; s++) {
                for (int b = 0; b < 2; b++) {
                    counts.put(path(s, b), 1);
                    nexts.put(path(s, b), nextAtFirst(start, s, b));
                }
                origins.put(s, NONE);
                lines.put(s, 0);
            }
        }

        private static int statesAtFirst(int start) {
            if (start == TREE) {
                return TREE_STATES;
            }
            return start == BRAID ? BRAID_LAYERS * BRAID_WIDTH : 1;
        }

        private static int nextAtFirst(int start, int s, int b) {
            if (start == TREE) {
                int child = 2 * s + 1 + b;
                return child < TREE_STATES ? child : 0;
            }
            if (start == BRAID) {
                int layer = (s / BRAID_WIDTH + 1) % BRAID_LAYERS;
                int strand = (2 * (s % BRAID_WIDTH) + b) % BRAID_WIDTH;
                return BRAID_WIDTH * layer + strand;
            }
            return 0;
        }

        private static int path(int s, int b) {
            return 2 * s + b;
        }

        void feed(int b) {
            taken++;
            int path = path(here, b);
            int weight = counts.get(path);
            int target = nexts.get(path);
            int whole = bothCounts(target);
            if (weight > settings.get(FIRST) && whole - weight > settings.get(REST)) {
                if (states >= settings.get(MOST)) {
                    drops++;
                    shapeAnew();
                    return;
                }
                nexts.put(path, cloneFrom(target, weight, whole));
            }
            // Read again: cloning may have taken from this very count.
            counts.put(path, counts.get(path) + 1);
            here = nexts.get(path);
        }

        private int cloneFrom(int target, int weight, int whole) {
            int added = states;
            for (int b = 0; b < 2; b++) {
                int from = path(target, b);
                int to = path(added, b);
                int share = cutQuotient((long) counts.get(from) * weight, whole);
                counts.put(to, share);
                counts.put(from, counts.get(from) - share);
                nexts.put(to, nexts.get(from));
            }
            origins.put(added, target);
            lines.put(added, lines.get(target) + 1);
            states++;
            clonings++;
            return added;
        }

        int countBy(int s, int b) {
            return counts.get(path(s, b));
        }

        int nextBy(int s, int b) {
            return nexts.get(path(s, b));
        }

        int lineOf(int s) {
            return lines.get(s);
        }

        int originOf(int s) {
            return origins.get(s);
        }

        private int bothCounts(int s) {
            return countBy(s, 0) + countBy(s, 1);
        }

        int chance(int s) {
            long part = (2L * countBy(s, 1) + 1) * PARTS;
            int parts = cutQuotient(part, 2L * bothCounts(s) + 2);
            return Math.max(1, Math.min(PARTS - 1, parts));
        }

        int likelyBit(int s) {
            return countBy(s, 1) > countBy(s, 0) ? 1 : 0;
        }

        /** The cost of the n highest of so many bits, from HERE on. */
        int costOf(int bits, int width, int n) {
            int s = here;
            int sum = 0;
            for (int k = 0; k < n; k++) {
                int b = bitFromHighest(bits, width, k);
                int chance = chance(s);
                sum += b == 1 ? PARTS - chance : chance;
                s = nextBy(s, b);
            }
            return sum;
        }

        int flowInto(int s) {
            reckonFlows();
            return flows.get(s);
        }

        int statesWithoutFlow() {
            reckonFlows();
            int dry = 0;
            for (int s = 0; s < states; s++) {
                if (flows.get(s) == 0) {
                    dry++;
                }
            }
            return dry;
        }

        private void reckonFlows() {
            for (int s = 0; s < states; s++) {
                flows.put(s, 0);
            }
            for (int path = 0; path < 2 * states; path++) {
                int target = nexts.get(path);
                flows.put(target, flows.get(target) + counts.get(path));
            }
        }

        int allCounts() {
            int sum = 0;
            for (int s = 0; s < states; s++) {
                sum += bothCounts(s);
            }
            return sum;
        }

        int longestLine() {
            int longest = 0;
            for (int s = 0; s < states; s++) {
                longest = Math.max(longest, lines.get(s));
            }
            return longest;
        }

        /** All but the settings, which the owner copies, and the flows, reckoned when asked for. */
        void copyFrom(Machine other) {
            states = other.states;
            here = other.here;
            taken = other.taken;
            clonings = other.clonings;
            drops = other.drops;
            counts.copyFrom(other.counts, 2 * states);
            nexts.copyFrom(other.nexts, 2 * states);
            origins.copyFrom(other.origins, states);
            lines.copyFrom(other.lines, states);
        }
    }

    /** LOW and HIGH, which packing and unpacking narrow alike. */
    private static final class Span {
        private long low;
        private long high;

        void open() {
            low = 0;
            high = CODE_RANGE - 1;
        }

        long middle(int chance) {
            return low + (high - low) / PARTS * chance;
        }

        void narrow(int b, long middle) {
            if (b == 1) {
                high = middle;
            } else {
                low = middle + 1;
            }
        }

        boolean topIsSettled() {
            return low / TOP_BYTE == high / TOP_BYTE;
        }

        int topOfLow() {
            return (int) (low / TOP_BYTE);
        }

        void loseTop() {
            low = low * 256 % CODE_RANGE;
            high = (high * 256 + 255) % CODE_RANGE;
        }
    }

    /** Packs bytes by a machine of its own, which stays to be asked how it grew. */
    private static final class Packer {
        private final Settings settings;
        private final Machine machine;
        private final Span span = new Span();
        private final Bytes target;
        private boolean used = false;

        Packer(Settings settings, Bytes target) {
            this.settings = settings;
            this.target = target;
            machine = new Machine(settings);
        }

        void open() {
            used = true;
            machine.begin();
            span.open();
            target.clear();
        }

        void close() {
            for (int k = 0; k < CODE_BYTES; k++) {
                putTop();
            }
        }

        void packByte(int v) {
            int bits = settings.turned(v);
            for (int k = 0; k < BYTE_BITS; k++) {
                packBit(bitFromHighest(bits, BYTE_BITS, k));
            }
        }

        private void packBit(int b) {
            span.narrow(b, span.middle(machine.chance(machine.here)));
            // Behind CODE_BYTES lost bytes the span is whole again.
            for (int k = 0; k < CODE_BYTES && span.topIsSettled(); k++) {
                putTop();
            }
            machine.feed(b);
        }

        private void putTop() {
            target.add(span.topOfLow());
            span.loseTop();
        }
    }

    /** Unpacks bytes by a machine of its own, which stays to be asked how it grew. */
    private static final class Unpacker {
        private final Settings settings;
        private final Machine machine;
        private final Span span = new Span();
        private final Bytes source;
        private long code = 0;
        private int pulled = 0;
        private boolean used = false;

        Unpacker(Settings settings, Bytes source) {
            this.settings = settings;
            this.source = source;
            machine = new Machine(settings);
        }

        void open() {
            used = true;
            machine.begin();
            span.open();
            code = 0;
            pulled = 0;
            for (int k = 0; k < CODE_BYTES; k++) {
                pullByte();
            }
        }

        int bytesRead() {
            return Math.min(pulled, source.length());
        }

        int unpackByte() {
            int bits = 0;
            for (int k = 0; k < BYTE_BITS; k++) {
                bits = 2 * bits + unpackBit();
            }
            return settings.turned(bits);
        }

        private int unpackBit() {
            long middle = span.middle(machine.chance(machine.here));
            int b = code <= middle ? 1 : 0;
            span.narrow(b, middle);
            for (int k = 0; k < CODE_BYTES && span.topIsSettled(); k++) {
                span.loseTop();
                pullByte();
            }
            machine.feed(b);
            return b;
        }

        private void pullByte() {
            code = (code * 256 + source.get(pulled)) % CODE_RANGE;
            pulled++;
        }
    }

    /** A live machine as it stood, with the settings that it had. */
    private static final class Kept {
        private final Settings settings = new Settings();
        private final Machine machine = new Machine(settings);
    }
}
