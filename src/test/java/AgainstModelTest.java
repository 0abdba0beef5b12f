import java.util.ArrayList;
import java.util.List;
import java.util.Random;
import java.util.TreeMap;

/** Long runs of drawn calls (always the same ones), each answer held against PlainModel's. */
public final class AgainstModelTest {
    private static final String[] CALLS = {
        "set", "renew", "write", "wipe", "pack", "unpack", "spoil", "at", "alike", "grew", "bit",
        "take", "state", "live", "likely", "guess", "cost", "cheapest", "keep", "back", "count"};
    // How often each call is drawn, by the kind of run: all alike, packing, the live machine.
    private static final int[][] WEIGHTS = {
        {2, 1, 8, 1, 4, 4, 4, 8, 3, 4, 8, 8, 10, 8, 4, 3, 4, 2, 3, 3, 6},
        {1, 0, 60, 1, 8, 10, 3, 20, 4, 6, 1, 1, 1, 1, 1, 1, 1, 0, 1, 1, 2},
        {1, 1, 0, 0, 0, 0, 0, 0, 0, 0, 40, 90, 60, 20, 6, 6, 10, 3, 5, 3, 2}};

    private static final int CALLS_MOST = 512;
    private static final int LOOKS = 100;

    private static final TreeMap<String, Integer> seen = new TreeMap<>();
    private static int wrong = 0;

    private static final class Look {
        final String call;
        final int[] arguments;

        Look(String call, int... arguments) {
            this.call = call;
            this.arguments = arguments;
        }
    }

    private static void mark(String what) {
        seen.merge(what, 1, Integer::sum);
    }

    private static int draw(Random random, int[] weights) {
        int sum = 0;
        for (int w : weights) {
            sum += w;
        }
        int left = random.nextInt(sum);
        int i = 0;
        while (left >= weights[i]) {
            left -= weights[i++];
        }
        return i;
    }

    /** Mostly a number from least to most, now and then one just outside or far off. */
    private static int number(Random random, int least, int most) {
        switch (random.nextInt(40)) {
            case 0:
                return least - 1;
            case 1:
                return most + 1;
            case 2:
                return random.nextInt();
            case 3:
                return random.nextBoolean() ? Integer.MAX_VALUE : Integer.MIN_VALUE;
            case 4:
                return least;
            case 5:
                return most;
            default:
                return least + random.nextInt(most - least + 1);
        }
    }

    private static int settingValue(Random random, int what, boolean eager) {
        switch (what) {
            case 0:
                return number(random, 0, 2);
            case 1:
            case 2:
                return eager ? number(random, 1, 4) : number(random, 1, 200);
            case 3:
                return eager ? number(random, 40, 60) : number(random, 40, 250);
            default:
                return number(random, 0, 1);
        }
    }

    private static int text(Random random, int alphabet) {
        int v = alphabet >= 256 ? random.nextInt(256) : (random.nextInt(alphabet) * 37 + 97) & 255;
        return random.nextInt(50) == 0 ? number(random, 0, 255) : v;
    }

    private static int[] arguments(String call, Random random, PlainModel model, boolean eager, int alphabet) {
        switch (call) {
            case "set":
                int what = number(random, 0, 4);
                return new int[] {what, settingValue(random, what, eager)};
            case "write":
            case "take":
                return new int[] {text(random, alphabet)};
            case "unpack":
                return new int[] {random.nextBoolean() ? Math.max(1, model.input.size()) : number(random, 1, 60)};
            case "spoil":
                return new int[] {number(random, 0, Math.max(3, model.pack.size())), number(random, 0, 255)};
            case "at":
                return new int[] {number(random, 0, 2), number(random, 0, 70)};
            case "grew":
                return new int[] {number(random, 0, 1), number(random, 0, 2)};
            case "bit":
            case "cheapest":
                return new int[] {number(random, 0, 1)};
            case "state":
                return new int[] {number(random, 0, model.live.states.size() - 1), number(random, 0, 7)};
            case "live":
                return new int[] {number(random, 0, 7)};
            case "likely":
                return new int[] {number(random, 0, 64)};
            case "cost":
                return new int[] {number(random, 0, 65535), number(random, 1, 16)};
            case "count":
                return new int[] {number(random, 0, 8)};
            default:
                return new int[0];
        }
    }

    private static int models(PlainModel x, String call, int[] a) {
        switch (call) {
            case "set": return x.set(a[0], a[1]);
            case "renew": return x.renew();
            case "write": return x.write(a[0]);
            case "wipe": return x.wipe();
            case "pack": return x.pack();
            case "unpack": return x.unpack(a[0]);
            case "spoil": return x.spoil(a[0], a[1]);
            case "at": return x.at(a[0], a[1]);
            case "alike": return x.alike();
            case "grew": return x.grew(a[0], a[1]);
            case "bit": return x.bit(a[0]);
            case "take": return x.take(a[0]);
            case "state": return x.state(a[0], a[1]);
            case "live": return x.live(a[0]);
            case "likely": return x.likely(a[0]);
            case "guess": return x.guess();
            case "cost": return x.cost(a[0], a[1]);
            case "cheapest": return x.cheapest(a[0]);
            case "keep": return x.keep();
            case "back": return x.back();
            default: return x.count(a[0]);
        }
    }

    private static int compareCall(int run, int number, String call, int[] a, CloningMachine x, PlainModel model) {
        int want = models(model, call, a);
        int got = Calls.on(x, call, a);
        if (got != want) {
            wrong++;
            if (wrong <= 20) {
                System.out.println("run " + run + ", call " + number + ": " + Calls.shown(call, a)
                        + " answered " + got + ", due is " + want);
            }
        }
        return want;
    }

    /** Everything that can be looked at without a change, as things stand in the model. */
    private static List<Look> allLooks(PlainModel model) {
        List<Look> looks = new ArrayList<>();
        for (int what = 0; what < 8; what++) {
            looks.add(new Look("live", what));
            for (int s = 0; s < model.live.states.size(); s++) {
                looks.add(new Look("state", s, what));
            }
        }
        int[] lengths = {model.input.size(), model.pack.size(), model.unpacked.size()};
        for (int row = 0; row < 3; row++) {
            for (int i = 0; i <= lengths[row]; i++) {
                looks.add(new Look("at", row, i));
            }
        }
        for (int what = 0; what < 9; what++) {
            looks.add(new Look("count", what));
        }
        for (int k = 0; k < 6; k++) {
            looks.add(new Look("grew", k / 3, k % 3));
        }
        return looks;
    }

    /** As many looks as there are calls left, another part of them all in each run. */
    private static void compareLooks(int run, int made, CloningMachine x, PlainModel model) {
        List<Look> looks = allLooks(model);
        for (int i = made; i < CALLS_MOST; i++) {
            Look look = looks.get((run * LOOKS + i) % looks.size());
            compareCall(run, i + 1, look.call, look.arguments, x, model);
        }
    }

    private static void markSights(PlainModel model) {
        if (model.live(6) > 0) {
            mark("live: a state without flow");
        }
        if (model.live(7) > 2) {
            mark("live: a line longer than 2");
        }
        if (model.live.dropped > 0) {
            mark("live: dropped");
        }
        if (model.grew(0, 2) > 0) {
            mark("packed: dropped");
        }
        if (model.grew(1, 2) > 0) {
            mark("unpacked: dropped");
        }
        if (model.tight > 0) {
            mark("a span below 4096");
        }
    }

    private static void oneRun(int run) {
        Random random = new Random(run * 7919L + 13);
        int[] weights = WEIGHTS[run % WEIGHTS.length];
        boolean eager = random.nextInt(4) != 0;
        int alphabet = new int[] {1, 2, 4, 256}[random.nextInt(4)];
        CloningMachine x = new CloningMachine();
        PlainModel model = new PlainModel();
        // Every other run ends with looks; none goes beyond the calls that are promised.
        int drawn = run % 2 == 0 ? CALLS_MOST : CALLS_MOST - LOOKS;
        for (int i = 0; i < drawn; i++) {
            // Settings mostly come early, so that machines grow for long.
            String call = i < 6 && random.nextInt(3) != 0 ? "set" : CALLS[draw(random, weights)];
            int[] a = arguments(call, random, model, eager, alphabet);
            int want = compareCall(run, i + 1, call, a, x, model);
            mark(call + (want < 0 ? " refused by " + want : " answered"));
        }
        markSights(model);
        compareLooks(run, drawn, x, model);
    }

    private static void mustHaveSeen(String... sights) {
        for (String sight : sights) {
            if (!seen.containsKey(sight)) {
                wrong++;
                System.out.println("the runs never showed: " + sight);
            }
        }
    }

    public static void main(String[] args) {
        for (int run = 0; run < 1500; run++) {
            oneRun(run);
        }
        for (String call : CALLS) {
            mustHaveSeen(call + " answered");
        }
        mustHaveSeen("set refused by -1", "set refused by -2", "write refused by -1", "write refused by -3",
                "pack refused by -2", "unpack refused by -1", "unpack refused by -2", "spoil refused by -1",
                "spoil refused by -2", "spoil refused by -4", "at refused by -1", "at refused by -4",
                "grew refused by -1", "grew refused by -4", "bit refused by -1", "take refused by -1",
                "state refused by -1", "state refused by -4", "live refused by -1", "likely refused by -1",
                "cost refused by -1", "cheapest refused by -1", "keep refused by -3", "back refused by -2",
                "count refused by -1", "live: a state without flow", "live: a line longer than 2",
                "live: dropped", "packed: dropped", "unpacked: dropped",
                "a span below 4096");
        if (args.length > 0) {
            System.out.println(seen);
        }
        System.out.println(wrong == 0 ? "all answers are the model's" : wrong + " faults");
        if (wrong != 0) {
            System.exit(1);
        }
    }
}
