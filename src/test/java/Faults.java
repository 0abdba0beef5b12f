/** What was not as due, and in which test. */
final class Faults {
    private static String test = "";
    private static int number = 0;

    private Faults() {
    }

    static void in(String name) {
        test = name;
    }

    static void tell(String what) {
        number++;
        System.out.println(test + ": " + what);
    }

    static void due(String what, int got, int want) {
        if (got != want) {
            tell(what + " answered " + got + ", due is " + want);
        }
    }

    static void must(boolean holds, String what) {
        if (!holds) {
            tell("not so: " + what);
        }
    }

    static int number() {
        return number;
    }
}
