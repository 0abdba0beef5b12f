import java.lang.reflect.InvocationTargetException;
import java.lang.reflect.Method;
import java.util.Arrays;
import java.util.Comparator;
import java.util.TreeSet;

/** Runs each boundary case that the document names: a method of its own, named after its promise. */
public final class EdgeTest {
    private static final Class<?>[] GROUPS = {
        TermsEdges.class, SettingsEdges.class, PackingEdges.class, LiveEdges.class, KeptEdges.class};

    private static final TreeSet<String> headings = new TreeSet<>();
    private static int ran = 0;

    private static void runGroup(Class<?> group) throws IllegalAccessException {
        Method[] methods = group.getDeclaredMethods();
        Arrays.sort(methods, Comparator.comparing(Method::getName));
        for (Method m : methods) {
            int heading = m.getName().indexOf('_');
            if (heading > 0 && !m.isSynthetic()) {
                headings.add(m.getName().substring(0, heading));
                runOne(m);
            }
        }
    }

    private static void runOne(Method m) throws IllegalAccessException {
        Faults.in(m.getName());
        ran++;
        try {
            m.invoke(null);
        } catch (InvocationTargetException e) {
            Faults.tell("threw " + e.getCause());
        }
    }

    private static void everyHeadingHasTests() {
        Faults.in("headings");
        for (int number = 1; number <= 22; number++) {
            Faults.must(headings.contains(String.format("promise%02d", number)), "promise " + number + " has a test");
        }
        for (int part = 1; part <= 3; part++) {
            Faults.must(headings.contains("terms" + part), "part " + part + " of the terms has a test");
        }
    }

    /** A call that is refused is tried where there is much that it could change. */
    private static void standingsAreAsSaid() {
        Faults.in("standings");
        Used busy = Standing.BUSY.made();
        busy.dueCounts(2, 1, 3, 41, 1, 3).due(7, "count", 7).due(1, "count", 8).due(2, "alike");
        Faults.must(busy.call("live", 1) != 0 && busy.call("live", 3) > 0, "BUSY: somewhere, and with clones");
        Used full = Standing.FULL_UP.made();
        full.dueCounts(0, 1, 1, 40, 0, 60).due(60, "count", 7).due(2, "count", 8).due(60, "alike").due(40, "live", 0);
        full.due(1, "back").due(24, "live", 2).due(0, "back").due(0, "live", 2);
    }

    public static void main(String[] args) throws IllegalAccessException {
        standingsAreAsSaid();
        for (Class<?> group : GROUPS) {
            runGroup(group);
        }
        everyHeadingHasTests();
        System.out.println(ran + " boundary cases, " + Faults.number() + " faults");
        if (Faults.number() != 0) {
            System.exit(1);
        }
    }
}
