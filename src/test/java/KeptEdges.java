/** The boundary cases of promises 20 to 22: keep, back, count. */
final class KeptEdges {
    private static final int BAD = Used.BAD, NO = Used.NO, FULL = Used.FULL, NONE = Used.NONE;
    private static final int LEAST_INT = Integer.MIN_VALUE, GREATEST_INT = Integer.MAX_VALUE;

    private KeptEdges() {
    }

    // ---- 20

    static void promise20_keep_theSecondComesAndTheThirdIsFull() {
        new Used().due(1, "keep").due(1, "count", 8).due(2, "keep").due(2, "count", 8).due(FULL, "keep").due(2, "count", 8);
        Unchanged.refused(Standing.FULL_UP, FULL, "keep");
    }

    static void promise20_keep_theThirdTouchesNeitherOfTheTwo() {
        Used x = Used.clonedOnce(0).then("keep").then("set", 0, 1).bits("11").then("keep").then("set", 0, 2).bits("1");
        x.due(FULL, "keep").due(9, "live", 1).due(1, "back").due(6, "live", 1).due(1, "count", 0);
        x.due(0, "back").due(1, "live", 1).due(0, "count", 0).dueLive(2, 1, 4, 1, 0, 6, 0, 1);
    }

    static void promise20_keep_hasRoomAgainBehindBack() {
        new Used().then("keep").then("keep").due(1, "back").due(2, "keep").due(FULL, "keep");
    }

    static void promise20_keep_leavesTheLiveMachineTheSettingsAndTheBytes() {
        Used x = Used.clonedTwice().write(1).then("pack").then("unpack", 1).then("keep");
        x.dueLive(3, 2, 8, 2, 0, 10, 1, 2).dueCounts(0, 1, 1, 100, 0, 1, 4, 1, 1).dueRow(0, 1).dueRow(2, 1);
    }

    static void promise20_keep_aMachineOfMostStates() {
        for (int most : new int[] {40, 250}) {
            Used x = Used.grownToMost(2, most).then("keep").then("renew").then("back");
            Used same = Used.grownToMost(2, most);
            for (int what = 0; what < 8; what++) {
                x.due(same.call("live", what), "live", what);
                for (int s = 0; s < most; s += most / 4) {
                    x.due(same.call("state", s, what), "state", s, what);
                }
                x.due(same.call("state", most - 1, what), "state", most - 1, what);
            }
            for (int i = 0; i < 10; i++) {
                x.due(same.call("take", 97), "take", 97);
            }
        }
    }

    // ---- 21

    static void promise21_back_withNothingKeptIsRefused() {
        Unchanged.refused(Standing.NEW, NO, "back");
        Used.clonedTwice().then("keep").due(0, "back").due(NO, "back").dueLive(3, 2, 8, 2, 0, 10, 1, 2)
                .dueCounts(0, 1, 1, 100, 0, 0, 0, 0, 0);
    }

    static void promise21_back_aRefusedOneLeavesTheLiveMachine() {
        Used.clonedTwice().write(7).due(NO, "back").dueLive(3, 2, 8, 2, 0, 10, 1, 2).dueRow(0, 7).due(0, "count", 8);
    }

    static void promise21_back_theLastKeptIsTheFirst() {
        Used x = new Used().bits("1").then("keep").bits("11").then("keep").bits("1");
        x.due(1, "back").due(3, "live", 2).due(1, "count", 8).due(0, "back").due(1, "live", 2).due(0, "count", 8);
    }

    static void promise21_back_itIsKeptNoMore() {
        Used x = new Used().bits("1").then("keep").due(0, "back").bits("1").due(NO, "back").due(2, "live", 2);
        x.due(1, "keep").bits("1").due(0, "back").due(2, "live", 2);
    }

    static void promise21_back_bringsEachSettingBack() {
        int[] other = {2, 200, 200, 250, 1};
        Used x = new Used().then("keep");
        for (int what = 0; what < 5; what++) {
            x.then("set", what, other[what]);
        }
        x.dueCounts(other).then("back").dueCounts(0, 2, 2, 100, 0);
    }

    static void promise21_back_theSettingsHoldForWhatComesThen() {
        // FIRST and REST 1 come back: the fourth bit clones; and ORDER 1 for packing.
        Used x = Used.by(0, 1, 1, 100, 1).then("keep").then("set", 1, 200).then("set", 4, 0).then("back");
        x.bits("110").due(1, "bit", 0).due(2, "live", 0);
        x.write(128).due(4, "pack").then("set", 4, 0).then("unpack", 1).dueRow(2, 1);
    }

    static void promise21_back_mostComesBackWithIt() {
        // MOST was 40 with 40 states: the 91st bit drops, though MOST was 250 meanwhile.
        Used x = Used.by(2, 1, 1, 40, 0).takeTimes(11, 97).bits("01").then("keep").then("set", 3, 250).then("back");
        x.due(40, "live", 0).due(0, "bit", 1).due(1, "live", 4).due(32, "live", 0);
    }

    static void promise21_back_bringsTakenClonedAndDroppedBack() {
        Used x = Used.by(2, 1, 1, 40, 0).takeTimes(12, 97).then("keep").takeTimes(9, 97);
        x.then("back").dueLive(32, 9, 96, 8, 1, 69, 0, 0);
    }

    static void promise21_back_bringsEachStateBack() {
        Used x = Used.clonedTwice().then("keep").take(200, 100, 50).then("set", 0, 2).then("back");
        x.dueState(0, 4, 1, 2, 0, 1024, 6, 0, NONE).dueState(1, 2, 1, 0, 0, 1536, 0, 1, 0);
        x.dueState(2, 2, 0, 0, 0, 682, 4, 2, 1).due(BAD, "state", 3, 0);
    }

    static void promise21_back_fromAGreaterMachineToASmallerOne() {
        Used x = new Used().then("keep").then("set", 0, 2).takeTimes(40, 97).then("back");
        x.dueLive(1, 0, 0, 0, 0, 2, 0, 0).due(BAD, "state", 1, 0).due(2, "state", 0, 5);
    }

    static void promise21_back_whatWasBroughtBackAndWhatIsStillKeptAreTwo() {
        Used x = new Used().bits("1").then("keep").then("keep").then("back").bits("1111").due(5, "live", 2);
        x.then("back").due(1, "live", 2).dueState(0, 1, 2);
    }

    static void promise21_back_inputPackAndUnpackedStay() {
        Used x = new Used().write(9).then("pack").then("unpack", 1).then("keep");
        x.then("wipe").write(1).then("pack").then("unpack", 1).write(2).then("spoil", 3, 0).then("back");
        x.dueRow(0, 1, 2).dueRow(1, 233, 163, 252, 0).dueRow(2, 1).due(1, "alike");
    }

    // ---- 22

    static void promise22_count_whatIs0To8() {
        for (int what : new int[] {-1, 9, LEAST_INT, GREATEST_INT}) {
            Unchanged.refusedAlways(BAD, "count", what);
        }
        Used.by(1, 3, 4, 50, 1).write(1, 2, 3).then("pack").then("unpack", 7).then("keep")
                .dueCounts(1, 3, 4, 50, 1, 3).due(7, "count", 7).due(1, "count", 8);
    }

    static void promise22_count_leastAndGreatest() {
        new Used().dueCounts(0, 2, 2, 100, 0, 0, 0, 0, 0);
        Used x = Used.by(2, 200, 200, 250, 1);
        for (int i = 0; i < 60; i++) {
            x.write(i);
        }
        x.then("pack").then("unpack", 60).then("keep").then("keep");
        x.dueCounts(2, 200, 200, 250, 1, 60).due(60, "count", 7).due(2, "count", 8);
    }

    static void promise22_count_theFewestBytesOfAPack() {
        new Used().write(255).then("pack").due(4, "count", 6);
    }

    static void promise22_count_changesNothing() {
        for (int what = 0; what < 9; what++) {
            Unchanged.neverChanges("count", what);
        }
    }
}
