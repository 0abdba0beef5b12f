/** The boundary cases of promises 12 to 19: bit, take, state, live, likely, guess, cost, cheapest. */
final class LiveEdges {
    private static final int BAD = Used.BAD, NONE = Used.NONE;
    private static final int LEAST_INT = Integer.MIN_VALUE, GREATEST_INT = Integer.MAX_VALUE;

    private LiveEdges() {
    }

    private static Used tree(int order) {
        return Used.by(1, 2, 2, 100, order);
    }

    // ---- 12

    static void promise12_bit_is0Or1() {
        for (int b : new int[] {-1, 2, LEAST_INT, GREATEST_INT}) {
            Unchanged.refusedAlways(BAD, "bit", b);
        }
        tree(0).due(1, "bit", 0).due(4, "bit", 1);
    }

    static void promise12_bit_behindALeafOfTheTreeIs0() {
        tree(0).due(2, "bit", 1).due(6, "bit", 1).due(14, "bit", 1).due(0, "bit", 1).due(0, "live", 1);
    }

    static void promise12_bit_aroundTheBraid() {
        Used.by(2, 2, 2, 100, 0).due(9, "bit", 1).due(19, "bit", 1).due(31, "bit", 1).due(7, "bit", 1)
                .due(14, "bit", 0).due(20, "bit", 0).due(24, "bit", 0).due(0, "bit", 0);
    }

    static void promise12_bit_thatClonesTellsTheClone() {
        Used.by(0, 1, 1, 100, 0).bits("110").due(1, "bit", 0).dueLive(2, 1, 4, 1, 0, 6);
    }

    static void promise12_bit_thatDropsTells0() {
        Used.by(2, 1, 1, 40, 0).takeTimes(11, 97).bits("01").due(0, "bit", 1).dueLive(32, 0, 91, 8, 1, 64);
    }

    static void promise12_bit_takesOneBitWhateverTheOrder() {
        tree(1).due(2, "bit", 1).due(1, "live", 2);
    }

    // ---- 13

    static void promise13_take_aByteIs0To255() {
        for (int v : new int[] {-1, 256, LEAST_INT, GREATEST_INT}) {
            Unchanged.refusedAlways(BAD, "take", v);
        }
        Used.by(2, 2, 2, 100, 0).due(0, "take", 0).due(7, "take", 255).due(16, "live", 2);
    }

    static void promise13_take_theHighestBitFirst() {
        // 0101 0110: the last three bits tell the strand.
        Used.by(2, 2, 2, 100, 0).due(6, "take", 86);
        tree(0).due(0, "take", 128).dueState(0, 2, 2).dueState(2, 2, 1).dueState(1, 2, 1);
    }

    static void promise13_take_theLowestBitFirst() {
        // 0110 1010
        Used.by(2, 2, 2, 100, 1).due(2, "take", 86);
        tree(1).due(0, "take", 1).dueState(0, 2, 2).dueState(2, 2, 1).dueState(1, 2, 1);
    }

    static void promise13_take_isEightBits() {
        int[] bits = {0, 1, 1, 0, 0, 0, 0, 1};
        Used x = Used.by(0, 1, 1, 40, 0);
        Used y = Used.by(0, 1, 1, 40, 0);
        for (int i = 0; i < 30; i++) {
            int here = 0;
            for (int b : bits) {
                here = y.call("bit", b);
            }
            x.due(here, "take", 97).due(y.call("live", 5), "live", 5);
        }
        x.due(240, "live", 2).due(y.call("live", 3), "live", 3).due(y.call("live", 4), "live", 4);
    }

    static void promise13_take_droppedWithinTheByteGoesOn() {
        // The 91st bit drops it; five bits, 00001, come behind.
        Used x = Used.by(2, 1, 1, 40, 0).takeTimes(11, 97).due(9, "take", 97);
        x.dueLive(32, 9, 96, 8, 1, 69);
    }

    // ---- 14

    static void promise14_state_thereAreSuchAsThereAre() {
        int[] states = {1, 15, 32};
        for (int start = 0; start < 3; start++) {
            Used x = Used.by(start, 2, 2, 100, 0);
            for (int what = 0; what < 8; what++) {
                x.due(BAD, "state", -1, what).due(BAD, "state", states[start], what);
            }
            x.due(1, "state", states[start] - 1, 0);
        }
        for (int s : new int[] {-1, 250, LEAST_INT, GREATEST_INT}) {
            Unchanged.refusedAlways(BAD, "state", s, 0);
        }
    }

    static void promise14_state_whatIs0To7() {
        for (int what : new int[] {-1, 8, LEAST_INT, GREATEST_INT}) {
            Unchanged.refusedAlways(BAD, "state", 0, what);
        }
        Used.clonedTwice().dueState(2, 2, 0, 0, 0, 682, 4, 2, 1);
    }

    static void promise14_state_aNewOneIsThereAtOnce() {
        Used.by(0, 1, 1, 100, 0).bits("110").due(BAD, "state", 1, 0).then("bit", 0)
                .dueState(1, 0, 1, 0, 0, 3072, 3, 1, 0).due(BAD, "state", 2, 0);
    }

    static void promise14_state_the40thOfMost40() {
        Used x = Used.by(2, 1, 1, 40, 0).takeTimes(10, 97).bits("01").due(39, "live", 1);
        Faults.must(x.call("state", 39, 7) >= 0, "the last state was cloned of one");
        x.due(BAD, "state", 40, 0);
    }

    static void promise14_state_thoseThatWereDroppedAreBad() {
        Used x = Used.by(2, 1, 1, 40, 0).takeTimes(10, 97).bits("01");
        x.due(1, "state", 32, 6).bits("100001011").due(BAD, "state", 32, 6).due(BAD, "state", 39, 0);
    }

    static void promise14_state_thoseThatWereClonedAheadOfRenewAreBad() {
        Used.clonedTwice().then("renew").due(BAD, "state", 1, 0).due(BAD, "state", 2, 7);
        Used.clonedTwice().then("set", 3, 99).due(BAD, "state", 1, 0);
    }

    static void promise14_state_oneThatWasNotClonedIsOfNone() {
        Unchanged.refused(Standing.NEW, NONE, "state", 0, 7);
        Unchanged.refused(Standing.BUSY, NONE, "state", 31, 7);
        Unchanged.refused(Standing.FULL_UP, NONE, "state", 0, 7);
    }

    static void promise14_state_oneClonedOf0TellsIt() {
        Used.clonedOnce(0).due(0, "state", 1, 7);
    }

    static void promise14_state_aCountAndAFlowOf0() {
        Used.clonedOnce(0).due(0, "state", 1, 0);
        Used.clonedTwice().due(0, "state", 2, 1).due(0, "state", 1, 5);
    }

    static void promise14_state_theTreesFlows() {
        Used x = tree(0).due(16, "state", 0, 5);
        for (int s = 1; s < 15; s++) {
            x.due(1, "state", s, 5);
        }
    }

    static void promise14_state_changesNothing() {
        for (int what = 0; what < 8; what++) {
            Unchanged.neverChanges("state", 0, what);
        }
    }

    // ---- 15

    static void promise15_live_whatIs0To7() {
        for (int what : new int[] {-1, 8, LEAST_INT, GREATEST_INT}) {
            Unchanged.refusedAlways(BAD, "live", what);
        }
        Used.clonedTwice().dueLive(3, 2, 8, 2, 0, 10, 1, 2);
    }

    static void promise15_live_aNewOne() {
        int[] states = {1, 15, 32};
        for (int start = 0; start < 3; start++) {
            Used.by(start, 2, 2, 100, 0).dueLive(states[start], 0, 0, 0, 0, 2 * states[start], 0, 0);
        }
    }

    static void promise15_live_bitsCountThoughItWasDropped() {
        Used x = Used.by(2, 1, 1, 40, 0).takeTimes(11, 97).bits("01").due(90, "live", 2).due(0, "live", 4);
        x.then("bit", 1).due(91, "live", 2).due(1, "live", 4).then("bit", 0).due(92, "live", 2).due(65, "live", 5);
    }

    static void promise15_live_cloningsCountThoughItWasDropped() {
        Used x = Used.by(2, 1, 1, 40, 0).takeTimes(12, 97).due(8, "live", 3).due(1, "live", 4);
        // The 103rd bit clones again.
        x.bits("011000").due(8, "live", 3).then("bit", 0).due(9, "live", 3).due(33, "live", 0);
    }

    static void promise15_live_droppedTwice() {
        Used x = Used.by(2, 1, 1, 40, 0).takeTimes(19, 97).bits("0110").due(1, "live", 4);
        x.then("bit", 0).dueLive(32, 0, 157, 16, 2, 64, 0, 0);
    }

    static void promise15_live_theLongestLineIsOfTheStatesThatThereAre() {
        Used x = Used.by(2, 1, 1, 40, 0).takeTimes(10, 97).bits("01");
        Faults.must(x.call("live", 7) > 0, "there is a line");
        x.bits("100001011").due(1, "live", 4).due(0, "live", 7);
        Used.clonedTwice().then("renew").due(0, "live", 7).due(0, "live", 6);
    }

    static void promise15_live_allCountsAreOneMoreABitHoweverItIsCloned() {
        Used x = Used.by(0, 1, 1, 250, 0);
        for (int i = 1; i <= 100; i++) {
            x.take((i * 73) & 255).due(2 + 8 * i, "live", 5);
        }
        Faults.must(x.call("live", 3) > 0 && x.call("live", 4) == 0, "it was cloned and not dropped");
    }

    static void promise15_live_noFlowIntoState0() {
        Used.by(0, 1, 2, 100, 0).bits("1100110").due(0, "live", 6).bits("1").due(1, "live", 6).due(0, "state", 0, 5);
    }

    static void promise15_live_changesNothing() {
        for (int what = 0; what < 8; what++) {
            Unchanged.neverChanges("live", what);
        }
    }

    // ---- 16

    static void promise16_likely_from0To64Bits() {
        for (int n : new int[] {-1, 65, LEAST_INT, GREATEST_INT}) {
            Unchanged.refusedAlways(BAD, "likely", n);
        }
        Used.clonedOnce(0).due(1, "likely", 0).due(0, "likely", 1).due(0, "likely", 63).due(1, "likely", 64);
    }

    static void promise16_likely_behind0BitsItIsHere() {
        tree(0).bits("10").due(5, "likely", 0).due(5, "live", 1);
        Unchanged.neverChanges("likely", 0);
    }

    static void promise16_likely_ofCountsAlikeBy0() {
        tree(0).due(1, "likely", 1).due(3, "likely", 2).due(7, "likely", 3).due(0, "likely", 4).due(0, "likely", 64);
        tree(0).bits("1111").due(2, "likely", 1).bits("0000").due(1, "likely", 1);
    }

    static void promise16_likely_countsGreaterBy1Only() {
        // 0 has (1, 2): one more is enough.
        tree(0).bits("1000").due(2, "likely", 1).due(5, "likely", 2);
    }

    static void promise16_likely_theMachineStaysAsItIs() {
        Unchanged.neverChanges("likely", 1);
        Unchanged.neverChanges("likely", 64);
    }

    // ---- 17

    static void promise17_guess_ofCountsAlikeIs0() {
        for (int start = 0; start < 3; start++) {
            Used.by(start, 2, 2, 100, 0).due(0, "guess");
            Used.by(start, 2, 2, 100, 1).due(0, "guess");
        }
    }

    static void promise17_guess_allOnes() {
        new Used().bits("1").due(255, "guess");
    }

    static void promise17_guess_byTheOrder() {
        tree(0).bits("1000").due(0x88, "guess");
        tree(1).bits("1000").due(0x11, "guess");
        Used.clonedOnce(0).due(0xAA, "guess");
        Used.clonedOnce(1).due(0x55, "guess");
    }

    static void promise17_guess_fromHereOnNotFrom0() {
        // HERE is 2 with (2, 1), 5 and 11 have (2, 1); then 0 with (1, 3), 2, 5, 11, and 0 again.
        tree(0).bits("1000").bits("1").due(0x11, "guess");
    }

    static void promise17_guess_theMachineStaysAsItIs() {
        Unchanged.neverChanges("guess");
    }

    // ---- 18

    static void promise18_cost_vIs0To65535() {
        for (int v : new int[] {-1, 65536, LEAST_INT, GREATEST_INT}) {
            Unchanged.refusedAlways(BAD, "cost", v, 1);
            Unchanged.refusedAlways(BAD, "cost", v, 16);
        }
        Used.clonedOnce(0).due(8 * (3072 + 1706), "cost", 0, 16).due(1024 + 15 * 2390, "cost", 65535, 16);
    }

    static void promise18_cost_nIs1To16() {
        for (int n : new int[] {0, 17, -1, LEAST_INT, GREATEST_INT}) {
            Unchanged.refusedAlways(BAD, "cost", 0, n);
            Unchanged.refusedAlways(BAD, "cost", 65535, n);
        }
        new Used().due(2048, "cost", 0, 1).due(16 * 2048, "cost", 0, 16).due(16 * 2048, "cost", 65535, 16);
    }

    static void promise18_cost_theHighestBitsTheHighestFirst() {
        Used.clonedOnce(0).due(1024, "cost", 32768, 1).due(3072, "cost", 32767, 1).due(1024, "cost", 65535, 1)
                .due(1024 + 1706, "cost", 32768, 2).due(1024 + 1706, "cost", 32768 + 16383, 2);
    }

    static void promise18_cost_theLowestOf16Bits() {
        Used x = new Used().bits("1");
        // CHANCE is 5 times 4096 by 8: 2560.
        x.due(2560, "state", 0, 4).due(16 * 2560, "cost", 0, 16);
        x.due(15 * 2560 + 1536, "cost", 1, 16).due(15 * 2560, "cost", 1, 15);
    }

    static void promise18_cost_isTheSameByTheOtherOrder() {
        Used.clonedOnce(1).due(1024 + 1706, "cost", 32768, 2).due(3072 + 2390, "cost", 16384, 2);
    }

    static void promise18_cost_theMachineStaysAsItIs() {
        Unchanged.neverChanges("cost", 0xA5C3, 16);
        Unchanged.neverChanges("cost", 65535, 1);
    }

    // ---- 19

    static void promise19_cheapest_whatIs0Or1() {
        for (int what : new int[] {-1, 2, LEAST_INT, GREATEST_INT}) {
            Unchanged.refusedAlways(BAD, "cheapest", what);
        }
    }

    static void promise19_cheapest_ofAllThatCostAlikeIsByte0() {
        for (int order = 0; order < 2; order++) {
            for (int start = 0; start < 3; start++) {
                Used.by(start, 2, 2, 100, order).due(0, "cheapest", 0).due(8 * 2048, "cheapest", 1);
            }
        }
    }

    static void promise19_cheapest_byte0() {
        for (int order = 0; order < 2; order++) {
            Used.by(0, 2, 2, 100, order).bits("0").due(0, "cheapest", 0).due(8 * 1536, "cheapest", 1);
        }
    }

    static void promise19_cheapest_byte1() {
        Used.by(0, 1, 1, 250, 0).takeTimes(7, 1).due(1, "cheapest", 0).due(4483, "cheapest", 1);
        Used.by(0, 1, 1, 250, 1).takeTimes(7, 1).due(1, "cheapest", 0).due(4261, "cheapest", 1);
    }

    static void promise19_cheapest_byte255() {
        for (int order = 0; order < 2; order++) {
            Used.by(0, 2, 2, 100, order).bits("1").due(255, "cheapest", 0).due(8 * 1536, "cheapest", 1);
        }
    }

    static void promise19_cheapest_theLowestOfSeveralByTheOrder() {
        // From 0 a 1 costs 1536 and leads to 2, where a 0 costs 1536, to 5 and to 11 likewise, twice;
        // so that is the least. In a tree that saw 1 alone, all behind it costs alike.
        tree(0).bits("1000").due(0x88, "cheapest", 0).due(8 * 1536, "cheapest", 1);
        tree(1).bits("1000").due(0x11, "cheapest", 0).due(8 * 1536, "cheapest", 1);
        lowestOfSeveral(0);
        lowestOfSeveral(1);
    }

    /** In a BRAID of which little was seen many bytes cost alike; the lowest byte is not the lowest row of bits. */
    private static void lowestOfSeveral(int order) {
        Used x = Used.by(2, 200, 200, 100, order).bits("0110");
        int least = GREATEST_INT;
        int which = -1;
        for (int v = 255; v >= 0; v--) {
            int row = order == 0 ? v : Integer.reverse(v) >>> 24;
            int price = x.call("cost", row << 8, 8);
            if (price <= least) {
                least = price;
                which = v;
            }
        }
        x.due(which, "cheapest", 0).due(least, "cheapest", 1);
    }

    static void promise19_cheapest_isNotAlwaysTheGuess() {
        greedyIsDearer(0);
        greedyIsDearer(1);
    }

    /** HERE is 0 with (23, 21): 0 is likely; but what is behind it is nearly even, and behind 1 come ones alone. */
    private static void greedyIsDearer(int order) {
        Used x = Used.by(1, 200, 200, 100, order);
        for (int i = 0; i < 20; i++) {
            x.bits("1111");
        }
        for (int i = 0; i < 22; i++) {
            x.bits(new String[] {"0000", "0111", "0011", "0100"}[i % 4]);
        }
        int guess = x.call("guess");
        int row = order == 0 ? guess : Integer.reverse(guess) >>> 24;
        Faults.must(x.call("cost", row << 8, 8) > x.call("cheapest", 1), "the guess is dearer than the cheapest");
        x.due(255, "cheapest", 0);
    }

    static void promise19_cheapest_theMachineStaysAsItIs() {
        Unchanged.neverChanges("cheapest", 0);
        Unchanged.neverChanges("cheapest", 1);
    }
}
