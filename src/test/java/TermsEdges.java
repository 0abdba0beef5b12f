/** The boundary cases that 'What it is' and 'Terms' name; terms1, 2, 3 are its three parts. */
final class TermsEdges {
    private static final int BAD = Used.BAD, NO = Used.NO, FULL = Used.FULL, NONE = Used.NONE;
    /** Again and again these make a LOOP and a TREE of 40 states soon. */
    private static final int[] MIXED = {0x5A, 0x3C, 0x96, 0xE1};

    private TermsEdges() {
    }

    // ---- what it is

    static void use_the512thCallIsAnsweredAsTheFirst() {
        Used x = new Used();
        for (int i = 0; i < 511; i++) {
            x.take(97);
        }
        Faults.due("calls that are left", x.callsLeft(), 1);
        x.due(511 * 8, "live", 2);
    }

    // ---- 1

    static void terms1_statesAreMostAtMost() {
        for (int most : new int[] {40, 100, 250}) {
            for (int start = 0; start < 3; start++) {
                growsNoFurtherThan(most, start);
            }
        }
    }

    private static void growsNoFurtherThan(int most, int start) {
        int first = Used.by(start, 1, 1, most, 0).call("live", 0);
        Used x = Used.grownToMost(start, most).due(most - first, "live", 3);
        x.due(most, "count", 3).due(Used.BAD, "state", most, 0);
        for (int i = 0; i < 50 && x.call("live", 4) == 0; i++) {
            x.due(most, "live", 0).then("bit", Used.mixed(i) & 1);
        }
        x.dueLive(first, 0).due(most - first, "live", 3).due(1, "live", 4);
    }

    static void terms1_the250thStateIsAsGoodAsAny() {
        Used.grownToMost(0, 250).due(249, "live", 1).dueState(249, 1, 0, 233, 126, 1024, 3, 4, 52);
        Used.grownToMost(1, 250).due(249, "live", 1).dueState(249, 0, 1, 88, 92, 3072, 3, 1, 2);
        Used.grownToMost(2, 250).due(249, "live", 1).dueState(249, 1, 0, 44, 41, 1024, 3, 1, 19);
    }

    static void terms1_settingsAtFirst() {
        new Used().dueCounts(0, 2, 2, 100, 0);
    }

    static void terms1_aLoopIsOneStateThatLeadsToItself() {
        Used.by(0, 2, 2, 100, 0).due(1, "live", 0).dueState(0, 1, 1, 0, 0).due(BAD, "state", 1, 0);
    }

    static void terms1_aTreeLeadsTo14AndFromThereTo0() {
        Used x = Used.by(1, 2, 2, 100, 0).due(15, "live", 0);
        int[] byZero = {1, 3, 5, 7, 9, 11, 13, 0, 0, 0, 0, 0, 0, 0, 0};
        int[] byOne = {2, 4, 6, 8, 10, 12, 14, 0, 0, 0, 0, 0, 0, 0, 0};
        for (int s = 0; s < 15; s++) {
            x.dueState(s, 1, 1, byZero[s], byOne[s]);
        }
        x.due(BAD, "state", 15, 0);
    }

    static void terms1_aBraidsLastLayerLeadsToItsFirst() {
        Used x = Used.by(2, 2, 2, 100, 0).due(32, "live", 0);
        x.dueState(0, 1, 1, 8, 9).dueState(8, 1, 1, 16, 17).dueState(16, 1, 1, 24, 25);
        x.dueState(24, 1, 1, 0, 1).dueState(27, 1, 1, 6, 7).dueState(31, 1, 1, 6, 7);
        x.due(BAD, "state", 32, 0);
    }

    static void terms1_aBraidsStrandsAreModulo8() {
        Used x = Used.by(2, 2, 2, 100, 0);
        x.dueState(3, 1, 1, 14, 15).dueState(4, 1, 1, 8, 9).dueState(5, 1, 1, 10, 11);
        x.dueState(7, 1, 1, 14, 15).dueState(12, 1, 1, 16, 17).dueState(28, 1, 1, 0, 1);
    }

    static void terms1_inANewMachineAllCountsAre1And0IsHereAndNoneIsCloned() {
        int[] states = {1, 15, 32};
        for (int start = 0; start < 3; start++) {
            Used x = Used.by(start, 2, 2, 100, 0).due(0, "live", 1);
            for (int s = 0; s < states[start]; s++) {
                x.due(1, "state", s, 0).due(1, "state", s, 1).due(0, "state", s, 6).due(NONE, "state", s, 7);
            }
        }
    }

    static void terms1_aNewMachineHasNothingOfAnOlderOne() {
        // The LOOP had states 1 and 2 cloned of others, and paths of theirs.
        Used.clonedTwice().then("set", 0, 1).dueState(1, 1, 1, 3, 4, 2048, 1, 0, NONE)
                .dueState(2, 1, 1, 5, 6, 2048, 1, 0, NONE).due(0, "live", 7);
        Used.clonedTwice().then("renew").dueState(0, 1, 1, 0, 0, 2048, 2, 0, NONE).due(0, "live", 6);
    }

    /** A LOOP with (3, 1): the k-th one finds a count of k, and 3 beside it. */
    static void terms1_aCountOfFirstClonesNothingAndOneMoreDoes() {
        for (int first : new int[] {1, 2, 200}) {
            Used x = Used.by(0, first, 1, 100, 0).bits("00");
            for (int k = 1; k <= first; k++) {
                x.due(0, "bit", 1);
            }
            x.due(1, "live", 0).due(1, "bit", 1).due(2, "live", 0);
        }
    }

    /** A LOOP with REST zeros in its count: ones, however many, leave REST beside them. */
    static void terms1_aRestOfRestClonesNothing() {
        for (int rest : new int[] {1, 2, 200}) {
            Used x = zeros(rest, rest - 1);
            x.due(0, "bit", 1).due(0, "bit", 1).due(0, "bit", 1).due(1, "live", 0).dueState(0, rest, 4);
        }
    }

    static void terms1_aRestOfOneMoreThanRestClones() {
        for (int rest : new int[] {1, 2, 200}) {
            zeros(rest, rest).due(0, "bit", 1).due(1, "live", 0).due(1, "bit", 1).due(2, "live", 0);
        }
    }

    private static Used zeros(int rest, int number) {
        Used x = Used.by(0, 1, rest, 100, 0);
        for (int i = 0; i < number; i++) {
            x.due(0, "bit", 0);
        }
        return x;
    }

    static void terms1_aPathHeavierThanItsStateClonesNothing() {
        // From 0 by 0: a count of 3, to 1 with (1, 1).
        Used x = Used.clonedOnce(0).due(0, "bit", 0).dueState(1, 1, 1).due(1, "bit", 0);
        x.due(2, "live", 0).dueState(0, 4, 2).dueState(1, 1, 1);
    }

    /** 97 again and again by a BRAID: the 82nd bit makes state 39, the 91st would clone again. */
    private static Used braidBehind(int bits) {
        Used x = Used.by(2, 1, 1, 40, 0).takeTimes(bits / 8, 97);
        return x.bits("01100001".substring(0, bits % 8));
    }

    static void terms1_oneLessThanMostStillClones() {
        braidBehind(81).due(39, "live", 0).due(39, "bit", 1).dueLive(40, 39, 82, 8, 0);
    }

    static void terms1_mostStatesAndNothingToCloneAreNotDropped() {
        braidBehind(82).dueLive(40, 39, 82, 8, 0);
        braidBehind(90).due(40, "live", 0).due(90, "live", 2).due(8, "live", 3).due(0, "live", 4).due(64 + 90, "live", 5);
    }

    static void terms1_mostStatesAndOneToCloneAreDropped() {
        braidBehind(90).due(0, "bit", 1).dueLive(32, 0, 91, 8, 1, 64, 0, 0).due(BAD, "state", 32, 0);
    }

    static void terms1_theBitThatDropsIsTakenButNotCounted() {
        Used x = braidBehind(91).due(91, "live", 2).due(64, "live", 5);
        for (int s = 0; s < 32; s++) {
            x.due(1, "state", s, 0).due(1, "state", s, 1);
        }
    }

    static void terms1_whatIsDroppedBecomesANewOneByTheSettings() {
        Used loop = Used.by(0, 1, 1, 40, 0);
        for (int i = 0; i < 19; i++) {
            loop.take(MIXED[i % 4]);
        }
        loop.due(40, "live", 0).due(0, "bit", 1).dueLive(1, 0, 153, 39, 1, 2, 0, 0);
        loop.dueState(0, 1, 1, 0, 0, 2048, 2, 0, NONE).due(BAD, "state", 1, 0);
        Used tree = Used.by(1, 1, 1, 40, 0);
        for (int i = 0; i < 17; i++) {
            tree.take(MIXED[i % 4]);
        }
        tree.then("bit", 0).due(40, "live", 0).due(0, "bit", 0).dueLive(15, 0, 138, 25, 1, 30, 0, 0);
        tree.dueState(7, 1, 1, 0, 0, 2048, 1, 0, NONE).due(BAD, "state", 15, 0);
    }

    static void terms1_whatWasDroppedGrowsOnLikeANewOne() {
        Used dropped = braidBehind(91);
        Used fresh = Used.by(2, 1, 1, 40, 0);
        for (int i = 0; i < 12; i++) {
            dropped.due(fresh.call("take", 97), "take", 97);
        }
        for (int s = 0; s < 32; s++) {
            for (int what = 0; what < 8; what++) {
                dropped.due(fresh.call("state", s, what), "state", s, what);
            }
        }
    }

    static void terms1_aCloneIsTheNextNumberAndItsNextsAreThoseOfTheOther() {
        // From 21 by 1: a count of 2, to 27 with (3, 1).
        Used x = braidBehind(18).due(32, "live", 0).due(21, "live", 1).due(32, "bit", 1).due(33, "live", 0);
        x.dueState(32, 1, 0, 6, 7, 1024, 3, 1, 27);
        x.dueState(27, 2, 1, 6, 7).due(NONE, "state", 27, 7).dueState(21, 1, 3, 26, 32);
    }

    static void terms1_whatACloneGetsIsCut() {
        // 4 times 3 by 5 is 2.4, 1 times 3 by 5 is 0.6.
        Used.clonedTwice().dueState(2, 2, 0).dueState(1, 2, 1);
    }

    static void terms1_aCloneMayGetNothingByABit() {
        Used.clonedOnce(0).dueState(1, 0, 1).dueState(0, 3, 2);
    }

    static void terms1_bothSharesAreByTheCountsAheadOfTheCloning() {
        // (5, 5): 25 by 10 each; by what is left behind the first share it would be another.
        Used x = Used.by(0, 4, 4, 100, 0).bits("01010101").dueState(0, 5, 5).due(1, "live", 0);
        x.due(1, "bit", 0).dueState(1, 2, 2).dueState(0, 4, 3);
        Used y = Used.by(0, 4, 4, 100, 0).bits("01010101").due(1, "bit", 1);
        y.dueState(1, 2, 2).dueState(0, 3, 4);
    }

    static void terms1_aStateClonedOfItselfCountsOneMoreThanIsLeft() {
        Used x = Used.clonedOnce(0);
        // (2, 3) less (0, 1), and one more by 0; the clone leads where 0 led ahead of it.
        x.dueState(0, 3, 2, 1, 0).dueState(1, 0, 1, 0, 0).due(1, "live", 1).due(6, "live", 5);
    }

    static void terms1_aChanceIsCut() {
        // 5 times 4096 by 12 is 1706.67.
        Used.clonedOnce(0).due(1706, "state", 0, 4).due(3072, "state", 1, 4);
        // 1 time 4096 by 6 is 682.67.
        Used.clonedTwice().due(682, "state", 2, 4);
    }

    /** The bounds of 1 and 4095 themselves lie beyond 512 calls, where answers are free: NOTES.md says why. */
    static void terms1_theLeastChanceOfAllRunsIs1() {
        // 3 times 4096 by 8182 is 1.5.
        new Used().takeTimes(511, 0).due(1, "state", 0, 4);
    }

    static void terms1_theGreatestChanceOfAllRunsIs4094() {
        // 8179 times 4096 by 8182 is 4094.5.
        new Used().takeTimes(511, 255).due(4094, "state", 0, 4);
    }

    // ---- 2

    static void terms2_theInputHas60BytesAtMost() {
        Used x = new Used();
        for (int n = 1; n <= 60; n++) {
            x.due(n, "write", n);
        }
        x.due(FULL, "write", 61).due(60, "count", 5).due(NONE, "at", 0, 60);
    }

    private static Used packOf(int... bytes) {
        return new Used().write(bytes).then("pack");
    }

    static void terms2_aCodeLikeMiddleIsA1() {
        // The first MIDDLE is 1048575 times 2048: 127, 255, 248, 0.
        packOf(0).spoil(127, 255, 248, 0).due(4, "unpack", 1).dueRow(2, 128);
    }

    static void terms2_aCodeOneMoreThanMiddleIsA0() {
        packOf(0).spoil(127, 255, 248, 1).due(4, "unpack", 1).dueRow(2, 127);
    }

    static void terms2_theLeastAndTheGreatestCode() {
        packOf(9).spoil(0, 0, 0, 0).due(4, "unpack", 2).dueRow(2, 255, 255);
        packOf(9).spoil(255, 255, 255, 255).due(4, "unpack", 2).dueRow(2, 0, 0);
    }

    static void terms2_highIs4294967295AtFirst() {
        // Zeros alone leave HIGH as it is: one less would tell in the fifth byte.
        Used.by(1, 2, 2, 100, 0).write(0, 0, 0, 0, 0).due(6, "pack").dueRow(1, 255, 255, 89, 148, 86, 3)
                .due(6, "unpack", 5).dueRow(2, 0, 0, 0, 0, 0);
    }

    static void terms2_withLowAndHighAlikeInAllFourBytesAllAreLost() {
        // Behind 18 bits HIGH is 2048 above LOW, a byte's border between them: a 1 makes them alike.
        packOf(169, 232, 233).dueRow(1, 97, 255, 250, 139, 189, 127, 237, 3)
                .due(8, "unpack", 3).dueRow(2, 169, 232, 233);
    }

    static void terms2_twoBytesAreLostByOneBit() {
        packOf(169, 232, 233, 190, 176).dueRow(1, 97, 255, 250, 139, 191, 0, 63, 4, 121, 177)
                .due(10, "unpack", 5).dueRow(2, 169, 232, 233, 190, 176);
    }

    static void terms2_withLessThan4096BetweenThemMiddleIsLow() {
        // Four zeros make LOW 1 more each, then a 1 makes HIGH LOW.
        packOf(169, 232, 194).dueRow(1, 97, 255, 250, 143, 143, 255, 247, 1)
                .due(8, "unpack", 3).dueRow(2, 169, 232, 194);
    }

    static void terms2_behindAllComeFourBytesOfLowTheHighestFirst() {
        packOf(0).dueRow(1, 236, 254, 7, 126);
        packOf(255).dueRow(1, 0, 0, 0, 0);
    }

    static void terms2_thePackHoldsThemAll() {
        int[] costly = {245, 85, 247, 166, 156, 178, 240, 214, 24, 218, 69, 124, 227, 203, 55, 55, 131, 158, 151, 180,
            238, 173, 19, 249, 104, 177, 122, 27, 214, 191, 230, 104, 203, 237, 130, 158, 16, 74, 109, 208,
            215, 255, 245, 200, 241, 251, 254, 99, 36, 133, 180, 237, 121, 178, 215, 212, 170, 244, 105, 141};
        Used x = Used.by(1, 1, 1, 250, 0).write(costly).due(102, "pack").due(102, "count", 6);
        x.due(102, "unpack", 60).due(60, "alike").dueRow(2, costly);
        x.due(NONE, "at", 1, 102);
    }

    static void terms2_beyondTheEndOfThePackZerosComeIn() {
        packOf(0).spoil(170, 170, 170, 170).due(4, "unpack", 8).dueRow(2, 66, 160, 1, 156, 17, 160, 0, 0);
    }

    static void terms2_beyondTheEndOfAShorterPackNoOlderOneIsSeen() {
        Used x = packOf(1, 2, 3, 4, 5, 6, 7, 8, 9).then("wipe").write(0).due(4, "pack");
        x.spoil(170, 170, 170, 170).due(4, "unpack", 8).dueRow(2, 66, 160, 1, 156, 17, 160, 0, 0);
    }

    static void terms2_whatComesInBeyondTheEndIsNotRead() {
        // Seven bytes come in, three of them from beyond the end.
        Used x = packOf(0).then("set", 0, 1).spoil(255, 255, 255, 255).due(4, "unpack", 60);
        x.due(60, "count", 7);
    }

    static void terms2_theFirstFourBytesAreReadAnyway() {
        packOf(97, 97, 97, 97, 97, 97, 97, 97, 97, 97, 97, 97, 97, 97, 97, 97, 97, 97, 97, 97)
                .due(12, "count", 6).due(4, "unpack", 1).due(6, "unpack", 2).due(11, "unpack", 15)
                .due(12, "unpack", 20).due(12, "unpack", 21).due(12, "unpack", 60);
    }

    static void terms2_unpackedIsByTheSettingsAsTheyAreThen() {
        packOf(1).then("set", 4, 1).due(4, "unpack", 1).dueRow(2, 128);
        packOf(97, 98).dueRow(1, 150, 200, 90, 253, 95).then("set", 0, 1).due(5, "unpack", 8)
                .dueRow(2, 103, 103, 98, 165, 180, 150, 101, 128);
    }

    static void terms2_packingBeginsWithANewMachineEachTime() {
        packOf(169, 232, 194).due(8, "pack").dueRow(1, 97, 255, 250, 143, 143, 255, 247, 1)
                .then("unpack", 3).due(8, "unpack", 3).dueRow(2, 169, 232, 194);
    }

    // ---- 3

    static void terms3_eachOtherSettingMakesTheLiveMachineNew() {
        int[] other = {0, 3, 3, 101, 1};
        for (int what = 0; what < 5; what++) {
            Used x = Used.by(1, 2, 2, 100, 0).bits("01").due(2, "live", 2).then("set", what, other[what]);
            x.dueLive(what == 0 ? 1 : 15, 0, 0, 0, 0, what == 0 ? 2 : 30, 0, 0);
        }
    }

    static void terms3_aSettingThatIsSoLeavesTheLiveMachine() {
        for (int what = 0; what < 5; what++) {
            Used x = Used.by(1, 2, 2, 100, 0).bits("01");
            x.due(NO, "set", what, x.call("count", what)).dueLive(15, 4, 2, 0, 0, 32, 0, 0);
        }
    }

    static void terms3_aFlowIsOfAllPathsAndMayBe0() {
        Used.by(1, 2, 2, 100, 0).due(16, "state", 0, 5).due(1, "state", 14, 5);
        // To 0 lead both bits of 1 and of 2 and one of its own; to 1 nothing leads.
        Used.clonedTwice().due(6, "state", 0, 5).due(0, "state", 1, 5).due(4, "state", 2, 5).due(1, "live", 6);
    }

    static void terms3_aFlowIs0ThoughPathsOfCount0LeadThere() {
        // 1 by 0 and 2 by 1 lead to 0, both with a count of 0.
        Used x = Used.by(0, 1, 2, 100, 0).bits("11001101").dueState(0, 2, 2, 1, 2, 2048, 0).due(1, "live", 6);
        x.dueState(1, 0, 3, 0, 3, 3584, 4).dueState(2, 2, 0, 1, 0, 682, 3).dueState(3, 0, 1, 1, 2, 3072, 3);
    }

    static void terms3_ofCountsThatAreAlike0IsLikely() {
        Used.by(1, 2, 2, 100, 0).due(1, "likely", 1).due(3, "likely", 2).due(0, "guess");
        // 0 has (1, 2), 2 has (1, 2), 6 has (2, 1) and 13 (2, 1), then from 0 again.
        Used.by(1, 2, 2, 100, 0).bits("1100").due(2, "likely", 1).due(6, "likely", 2).due(13, "likely", 3)
                .due(0, "likely", 4).due(0xCC, "guess");
    }

    static void terms3_aCostIs4096LessTheParts() {
        // CHANCE of 1 is 3072, of 0 then 1706.
        Used.clonedOnce(0).due(4096 - 3072, "cost", 32768, 1).due(3072, "cost", 0, 1)
                .due(1024 + 4096 - 1706, "cost", 49152, 2).due(1024 + 1706, "cost", 32768, 2);
    }

    static void terms3_aCostAtTheLeastChance() {
        new Used().takeTimes(508, 0).due(1, "state", 0, 4).due(1, "cost", 0, 1).due(4095, "cost", 65535, 1)
                .due(16 * 4095, "cost", 65535, 16);
    }

    static void terms3_aLineIs0ForOneThatWasNotCloned() {
        Used.clonedTwice().due(0, "state", 0, 6).due(1, "state", 1, 6).due(2, "state", 2, 6).due(2, "live", 7);
        new Used().due(0, "state", 0, 6).due(0, "live", 7);
    }

    static void terms3_twoAreKeptAtMost() {
        new Used().due(1, "keep").due(2, "keep").due(FULL, "keep").due(2, "count", 8);
    }

    static void terms3_ofSeveralRefusalsBadIsFirst() {
        Unchanged.refused(Standing.FULL_UP, BAD, "write", 256);
        Unchanged.refused(Standing.FULL_UP, BAD, "write", -1);
        Unchanged.refused(Standing.NEW, BAD, "unpack", 0);
        Unchanged.refused(Standing.NEW, BAD, "unpack", 61);
        Unchanged.refused(Standing.NEW, BAD, "spoil", -1, 0);
        Unchanged.refused(Standing.NEW, BAD, "spoil", 0, -1);
        Unchanged.refused(Standing.NEW, BAD, "spoil", 0, 256);
        Unchanged.refused(Standing.BUSY, BAD, "spoil", 999, 256);
        Unchanged.refused(Standing.NEW, BAD, "at", 0, -1);
        Unchanged.refused(Standing.NEW, BAD, "at", 3, 0);
        Unchanged.refused(Standing.BUSY, BAD, "at", -1, 999);
        Unchanged.refused(Standing.NEW, BAD, "grew", 2, 0);
        Unchanged.refused(Standing.NEW, BAD, "grew", 0, 3);
        Unchanged.refused(Standing.NEW, BAD, "state", 0, 8);
    }
}
