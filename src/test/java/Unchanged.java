import java.util.EnumMap;
import java.util.Map;

/** Calls that change nothing: those that are refused, and those that only look. */
final class Unchanged {
    private static final Map<Standing, Map<Picture.Later, String>> untouched = new EnumMap<>(Standing.class);

    private Unchanged() {
    }

    /** The call is refused however things stand. */
    static void refusedAlways(int want, String name, int... a) {
        for (Standing standing : Standing.values()) {
            refused(standing, want, name, a);
        }
    }

    static void refused(Standing standing, int want, String name, int... a) {
        Faults.due(standing + ": " + Calls.shown(name, a), standing.made().call(name, a), want);
        changesNothing(standing, name, a);
    }

    static void neverChanges(String name, int... a) {
        for (Standing standing : Standing.values()) {
            changesNothing(standing, name, a);
        }
    }

    static void changesNothing(Standing standing, String name, int... a) {
        for (Picture.Later later : Picture.Later.values()) {
            String before = untouched(standing, later);
            String behind = Picture.of(standing, x -> x.then(name, a), later);
            if (!behind.equals(before)) {
                Faults.tell(standing + ", " + later + ": behind " + Calls.shown(name, a) + " "
                        + firstOther(before.split("\n"), behind.split("\n")));
            }
        }
    }

    private static String untouched(Standing standing, Picture.Later later) {
        return untouched.computeIfAbsent(standing, k -> new EnumMap<>(Picture.Later.class))
                .computeIfAbsent(later, k -> Picture.of(standing, x -> { }, k));
    }

    private static String firstOther(String[] before, String[] behind) {
        int i = 0;
        while (i < before.length && i < behind.length && before[i].equals(behind[i])) {
            i++;
        }
        return (i < behind.length ? behind[i] : "there is less") + ", else "
                + (i < before.length ? before[i] : "nothing more");
    }
}
