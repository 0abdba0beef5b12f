/** The boundary cases of promises 1 to 3: a new object, set, renew. */
final class SettingsEdges {
    private static final int BAD = Used.BAD, NO = Used.NO, NONE = Used.NONE;
    private static final int LEAST_INT = Integer.MIN_VALUE, GREATEST_INT = Integer.MAX_VALUE;
    private static final int[] AT_FIRST = {0, 2, 2, 100, 0};
    private static final int[] LEAST = {0, 1, 1, 40, 0};
    private static final int[] GREATEST = {2, 200, 200, 250, 1};

    private SettingsEdges() {
    }

    // ---- 1

    static void promise01_new_theSettingsAreAsTold() {
        new Used().dueCounts(AT_FIRST);
    }

    static void promise01_new_theLiveMachineIsANewLoop() {
        new Used().dueLive(1, 0, 0, 0, 0, 2, 0, 0).dueState(0, 1, 1, 0, 0, 2048, 2, 0, NONE).due(BAD, "state", 1, 0);
    }

    static void promise01_new_inputPackAndUnpackedAreEmpty() {
        new Used().due(0, "count", 5).due(0, "count", 6).due(0, "count", 7).dueRow(0).dueRow(1).dueRow(2)
                .due(0, "alike").due(NO, "pack").due(NO, "unpack", 1).due(NONE, "spoil", 0, 0).due(0, "wipe");
    }

    static void promise01_new_nothingWasPackedOrUnpacked() {
        Used x = new Used();
        for (int k = 0; k < 6; k++) {
            x.due(NONE, "grew", k / 3, k % 3);
        }
    }

    static void promise01_new_nothingIsKept() {
        new Used().due(0, "count", 8).due(NO, "back");
    }

    static void promise01_new_oneObjectDoesNotTouchAnother() {
        Used busy = Standing.BUSY.made();
        Used x = new Used();
        busy.take(1, 2, 3).then("set", 0, 0);
        x.dueCounts(0, 2, 2, 100, 0, 0, 0, 0, 0).dueLive(1, 0, 0, 0, 0, 2, 0, 0);
    }

    static void promise01_new_theConstants() {
        Faults.due("BAD", CloningMachine.BAD, -1);
        Faults.due("NO", CloningMachine.NO, -2);
        Faults.due("FULL", CloningMachine.FULL, -3);
        Faults.due("NONE", CloningMachine.NONE, -4);
    }

    // ---- 2

    private static void goesTo(int what, int least, int greatest) {
        Used x = new Used();
        int first = AT_FIRST[what];
        if (first != least) {
            x.due(first, "set", what, least).due(least, "count", what);
        }
        x.due(least, "set", what, greatest).due(greatest, "count", what);
        x.due(greatest, "set", what, least).due(least, "count", what);
        for (int other = 0; other < 5; other++) {
            if (other != what) {
                x.due(AT_FIRST[other], "count", other);
            }
        }
    }

    private static void staysWithin(int what) {
        for (int v : new int[] {LEAST[what] - 1, GREATEST[what] + 1, LEAST_INT, GREATEST_INT}) {
            Unchanged.refusedAlways(BAD, "set", what, v);
        }
        goesTo(what, LEAST[what], GREATEST[what]);
    }

    static void promise02_set_startIs0To2() {
        staysWithin(0);
        new Used().due(0, "set", 0, 1).due(15, "live", 0).due(1, "set", 0, 2).due(32, "live", 0)
                .due(2, "set", 0, 0).due(1, "live", 0);
    }

    static void promise02_set_firstIs1To200() {
        staysWithin(1);
        Unchanged.refusedAlways(BAD, "set", 1, 0);
    }

    static void promise02_set_restIs1To200() {
        staysWithin(2);
        Unchanged.refusedAlways(BAD, "set", 2, 0);
    }

    static void promise02_set_mostIs40To250() {
        staysWithin(3);
        Unchanged.refusedAlways(BAD, "set", 3, 0);
    }

    static void promise02_set_orderIs0Or1() {
        staysWithin(4);
    }

    static void promise02_set_thereAreFiveSettings() {
        for (int what : new int[] {-1, 5, LEAST_INT, GREATEST_INT}) {
            Unchanged.refusedAlways(BAD, "set", what, 1);
            Unchanged.refusedAlways(BAD, "set", what, 100);
        }
    }

    static void promise02_set_whatIsSoIsRefused() {
        for (Standing standing : Standing.values()) {
            for (int what = 0; what < 5; what++) {
                Unchanged.refused(standing, NO, "set", what, standing.made().call("count", what));
            }
        }
    }

    static void promise02_set_leastAndGreatestAreRefusedWhenTheyAreSo() {
        for (int what = 0; what < 5; what++) {
            new Used().then("set", what, LEAST[what]).due(NO, "set", what, LEAST[what]);
            new Used().then("set", what, GREATEST[what]).due(NO, "set", what, GREATEST[what]);
        }
    }

    static void promise02_set_leavesBytesAndWhatIsKept() {
        for (int what = 0; what < 5; what++) {
            Used x = new Used().write(1).then("pack").then("unpack", 1).then("keep").then("set", what, GREATEST[what]);
            x.due(1, "count", 8).dueRow(0, 1).dueRow(1, 233, 163, 252, 253).dueRow(2, 1);
            x.due(1, "grew", 0, 0).due(1, "grew", 1, 0).due(0, "back").dueCounts(AT_FIRST);
        }
    }

    // ---- 3

    static void promise03_renew_tellsHowManyStates() {
        int[] states = {1, 15, 32};
        for (int start = 0; start < 3; start++) {
            Used.by(start, 2, 2, 40, 0).due(states[start], "renew").due(states[start], "live", 0);
        }
    }

    static void promise03_renew_beginsAllAnew() {
        // The 91st of these 112 bits drops it, with eight cloned; the 103rd clones again.
        Used x = Used.by(2, 1, 1, 40, 0).takeTimes(14, 97);
        Faults.must(x.call("live", 3) > 8 && x.call("live", 4) == 1, "it was cloned and dropped");
        x.due(32, "renew").dueLive(32, 0, 0, 0, 0, 64, 0, 0).due(BAD, "state", 32, 0);
        for (int s = 0; s < 32; s++) {
            x.due(1, "state", s, 0).due(1, "state", s, 1).due(NONE, "state", s, 7);
        }
    }

    static void promise03_renew_ofANewOneChangesNothing() {
        Unchanged.changesNothing(Standing.NEW, "renew");
    }

    static void promise03_renew_leavesSettingsBytesAndWhatIsKept() {
        Used x = Standing.BUSY.made();
        int[] counts = new int[9];
        for (int what = 0; what < 9; what++) {
            counts[what] = x.call("count", what);
        }
        x.due(32, "renew").dueCounts(counts);
        x.due(0, "back").dueCounts(1, 1, 1, 60, 0);
    }
}
