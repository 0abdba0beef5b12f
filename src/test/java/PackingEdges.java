/** The boundary cases of promises 4 to 11: write, wipe, pack, unpack, spoil, at, alike, grew. */
final class PackingEdges {
    private static final int BAD = Used.BAD, NO = Used.NO, FULL = Used.FULL, NONE = Used.NONE;
    private static final int LEAST_INT = Integer.MIN_VALUE, GREATEST_INT = Integer.MAX_VALUE;
    private static final int[] NO_BYTES = {-1, 256, LEAST_INT, GREATEST_INT};

    private PackingEdges() {
    }

    private static Used inputOf(int length) {
        Used x = new Used();
        for (int i = 0; i < length; i++) {
            x.write((i * 37 + 11) & 255);
        }
        return x;
    }

    private static Used packOf(int... bytes) {
        return new Used().write(bytes).then("pack");
    }

    // ---- 4

    static void promise04_write_aByteIs0To255() {
        for (int v : NO_BYTES) {
            Unchanged.refusedAlways(BAD, "write", v);
        }
        new Used().due(1, "write", 0).due(2, "write", 255).dueRow(0, 0, 255);
    }

    static void promise04_write_the60thComesAndThe61stIsFull() {
        inputOf(59).due(60, "write", 7).due(FULL, "write", 8).due(60, "count", 5).due(7, "at", 0, 59);
        Unchanged.refused(Standing.FULL_UP, FULL, "write", 0);
        Unchanged.refused(Standing.FULL_UP, FULL, "write", 255);
    }

    static void promise04_write_aWrongByteIsBadAlsoWhenFull() {
        for (int v : NO_BYTES) {
            Unchanged.refused(Standing.FULL_UP, BAD, "write", v);
        }
    }

    static void promise04_write_leavesThePackAndWhatWasUnpacked() {
        packOf(1).then("unpack", 1).due(2, "write", 2).dueRow(1, 233, 163, 252, 253).dueRow(2, 1);
    }

    // ---- 5

    static void promise05_wipe_anEmptyInputHad0() {
        new Used().due(0, "wipe").due(0, "count", 5);
        Unchanged.changesNothing(Standing.NEW, "wipe");
    }

    static void promise05_wipe_aFullInputHad60AndHasRoomThen() {
        inputOf(60).due(60, "wipe").due(0, "count", 5).dueRow(0).due(0, "wipe").due(1, "write", 9).dueRow(0, 9);
    }

    static void promise05_wipe_leavesAllElse() {
        Used x = packOf(1).then("unpack", 1).take(97).due(1, "wipe");
        x.dueRow(1, 233, 163, 252, 253).dueRow(2, 1).due(8, "live", 2).due(1, "grew", 0, 0).due(1, "grew", 1, 0);
    }

    // ---- 6

    static void promise06_pack_anEmptyInputIsRefused() {
        Unchanged.refused(Standing.NEW, NO, "pack");
        packOf(1).then("unpack", 1).then("wipe").then("set", 0, 2).due(NO, "pack")
                .dueRow(1, 233, 163, 252, 253).dueRow(2, 1).due(1, "grew", 0, 0);
    }

    static void promise06_pack_oneByte() {
        new Used().write(0).due(4, "pack").dueRow(1, 236, 254, 7, 126);
        new Used().write(255).due(4, "pack").dueRow(1, 0, 0, 0, 0);
        new Used().write(1).due(4, "pack").dueRow(1, 233, 163, 252, 253);
    }

    static void promise06_pack_sixtyBytes() {
        inputOf(60).due(69, "pack").dueRow(1, 217, 53, 226, 40, 14, 53, 47, 228, 49, 15, 1, 140, 180, 190, 64, 149, 154,
                193, 205, 154, 125, 17, 208, 239, 23, 249, 135, 130, 192, 142, 167, 208, 37, 5, 127, 159, 218, 206, 149,
                191, 0, 113, 101, 241, 154, 158, 112, 22, 166, 162, 30, 134, 83, 225, 201, 101, 167, 25, 207, 27, 202,
                121, 176, 213, 151, 71, 97, 79, 186);
    }

    static void promise06_pack_thePackIsMadeAnew() {
        inputOf(60).due(69, "pack").then("wipe").write(1).due(4, "pack").due(4, "count", 6)
                .dueRow(1, 233, 163, 252, 253).due(NONE, "at", 1, 68);
    }

    static void promise06_pack_theOrderOfBits() {
        new Used().then("set", 4, 1).write(128).due(4, "pack").dueRow(1, 233, 163, 252, 253);
        new Used().then("set", 4, 1).write(127).due(4, "pack").dueRow(1, packed(254));
    }

    private static int[] packed(int v) {
        Used x = packOf(v);
        int[] bytes = new int[x.call("count", 6)];
        for (int i = 0; i < bytes.length; i++) {
            bytes[i] = x.call("at", 1, i);
        }
        return bytes;
    }

    static void promise06_pack_leavesTheInputAndTheLiveMachine() {
        Used x = Used.clonedTwice().write(9, 8).then("pack").dueRow(0, 9, 8).dueLive(3, 2, 8, 2, 0, 10, 1, 2);
        x.dueRow(2);
    }

    // ---- 7

    static void promise07_unpack_from1To60Bytes() {
        for (int n : new int[] {0, 61, -1, LEAST_INT, GREATEST_INT}) {
            Unchanged.refusedAlways(BAD, "unpack", n);
        }
        packOf(1).due(4, "unpack", 1).due(1, "count", 7).due(4, "unpack", 60).due(60, "count", 7);
    }

    static void promise07_unpack_anEmptyPackIsRefused() {
        Unchanged.refused(Standing.NEW, NO, "unpack", 1);
        Unchanged.refused(Standing.NEW, NO, "unpack", 60);
        new Used().write(1).due(NO, "unpack", 1).due(0, "count", 7).due(NONE, "grew", 1, 0);
    }

    static void promise07_unpack_aWrongNumberIsBadAlsoWithoutAPack() {
        Unchanged.refused(Standing.NEW, BAD, "unpack", 0);
        Unchanged.refused(Standing.NEW, BAD, "unpack", 61);
    }

    static void promise07_unpack_comesInPlaceOfWhatWas() {
        packOf(1, 2, 3).then("unpack", 60).then("unpack", 2).dueRow(2, 1, 2).due(2, "count", 7);
    }

    static void promise07_unpack_aRefusedOneLeavesWhatWas() {
        packOf(1, 2, 3).then("unpack", 2).due(BAD, "unpack", 61).due(BAD, "unpack", 0).dueRow(2, 1, 2);
    }

    static void promise07_unpack_readIsNoMoreThanThePackHas() {
        inputOf(60).then("pack").due(4, "unpack", 1).due(5, "unpack", 2).due(15, "unpack", 10).due(47, "unpack", 40)
                .due(68, "unpack", 59).due(69, "unpack", 60);
        packOf(0).then("set", 0, 1).spoil(255, 255, 255, 255).due(4, "unpack", 60);
    }

    static void promise07_unpack_worksWithoutAnInput() {
        packOf(9, 8, 7).then("wipe").then("unpack", 3).dueRow(2, 9, 8, 7).dueRow(0);
    }

    static void promise07_unpack_leavesThePackAndTheLiveMachine() {
        Used x = Used.clonedTwice().write(1).then("set", 3, 90).bits("00001000").then("pack");
        int[] bytes = new int[x.call("count", 6)];
        for (int i = 0; i < bytes.length; i++) {
            bytes[i] = x.call("at", 1, i);
        }
        x.then("unpack", 60).dueRow(1, bytes).dueRow(0, 1).dueLive(3, 2, 8, 2, 0, 10, 1, 2);
    }

    // ---- 8

    static void promise08_spoil_aPlaceBelow0IsBad() {
        Unchanged.refusedAlways(BAD, "spoil", -1, 0);
        Unchanged.refusedAlways(BAD, "spoil", LEAST_INT, 255);
    }

    static void promise08_spoil_aByteIs0To255() {
        for (int v : NO_BYTES) {
            Unchanged.refusedAlways(BAD, "spoil", 0, v);
            Unchanged.refusedAlways(BAD, "spoil", 999, v);
        }
        packOf(0).due(236, "spoil", 0, 0).due(0, "spoil", 0, 255).dueRow(1, 255, 254, 7, 126);
    }

    static void promise08_spoil_whatIsSoIsRefused() {
        Unchanged.refused(Standing.BUSY, NO, "spoil", 4, 77);
        packOf(0).due(NO, "spoil", 0, 236).due(NO, "spoil", 3, 126).dueRow(1, 236, 254, 7, 126);
        packOf(255).due(NO, "spoil", 0, 0);
    }

    static void promise08_spoil_theLastByteIsThereAndTheNextIsNone() {
        packOf(0).due(126, "spoil", 3, 255).due(NONE, "spoil", 4, 255).dueRow(1, 236, 254, 7, 255).due(4, "count", 6);
        int behind = Standing.BUSY.made().call("count", 6);
        Unchanged.refused(Standing.BUSY, NONE, "spoil", behind, 0);
        Unchanged.refused(Standing.BUSY, NONE, "spoil", GREATEST_INT, 0);
    }

    static void promise08_spoil_anEmptyPackHasNone() {
        Unchanged.refused(Standing.NEW, NONE, "spoil", 0, 0);
        Unchanged.refused(Standing.NEW, NONE, "spoil", 0, 255);
    }

    static void promise08_spoil_whereAnOlderPackHadMoreIsNone() {
        inputOf(60).then("pack").then("wipe").write(0).then("pack").due(NONE, "spoil", 4, 1).due(NONE, "spoil", 68, 1)
                .dueRow(1, 236, 254, 7, 126);
    }

    static void promise08_spoil_packingAgainMendsIt() {
        packOf(0).then("spoil", 0, 1).due(4, "pack").dueRow(1, 236, 254, 7, 126);
    }

    // ---- 9

    static void promise09_at_thereAreThreeRows() {
        for (int row : new int[] {-1, 3, LEAST_INT, GREATEST_INT}) {
            Unchanged.refusedAlways(BAD, "at", row, 0);
            Unchanged.refusedAlways(BAD, "at", row, 999);
        }
        packOf(1).then("unpack", 1).due(1, "at", 0, 0).due(233, "at", 1, 0).due(1, "at", 2, 0);
    }

    static void promise09_at_aPlaceBelow0IsBad() {
        for (int row = 0; row < 3; row++) {
            Unchanged.refusedAlways(BAD, "at", row, -1);
            Unchanged.refusedAlways(BAD, "at", row, LEAST_INT);
        }
    }

    static void promise09_at_anEmptyRowHasNone() {
        for (int row = 0; row < 3; row++) {
            Unchanged.refused(Standing.NEW, NONE, "at", row, 0);
        }
    }

    static void promise09_at_theLastIsThereAndTheNextIsNone() {
        for (Standing standing : new Standing[] {Standing.BUSY, Standing.FULL_UP}) {
            for (int row = 0; row < 3; row++) {
                int length = standing.made().call("count", 5 + row);
                Faults.must(standing.made().call("at", row, length - 1) >= 0, standing + ": row " + row + " has its last");
                Unchanged.refused(standing, NONE, "at", row, length);
                Unchanged.refused(standing, NONE, "at", row, GREATEST_INT);
            }
        }
    }

    static void promise09_at_whatAShorterRowLeftBehindIsNone() {
        inputOf(60).then("pack").then("unpack", 60).then("wipe").write(1).then("pack").then("unpack", 1)
                .dueRow(0, 1).dueRow(1, 233, 163, 252, 253).dueRow(2, 1);
    }

    static void promise09_at_changesNothing() {
        for (int row = 0; row < 3; row++) {
            Unchanged.neverChanges("at", row, 0);
        }
    }

    // ---- 10

    static void promise10_alike_nothingIsAlikeWhereOneIsEmpty() {
        new Used().due(0, "alike");
        new Used().write(0).due(0, "alike");
        packOf(0).then("unpack", 1).then("wipe").due(0, "alike");
    }

    static void promise10_alike_allAre() {
        inputOf(60).then("pack").then("unpack", 60).due(60, "alike");
        packOf(0).then("unpack", 1).due(1, "alike");
    }

    static void promise10_alike_theFirstIsNot() {
        packOf(9, 8, 7).then("unpack", 3).then("wipe").write(1, 8, 7).due(0, "alike");
    }

    static void promise10_alike_theLastIsNot() {
        packOf(9, 8, 7).then("unpack", 3).then("wipe").write(9, 8, 1).due(2, "alike");
    }

    static void promise10_alike_thoseBehindOneThatIsNotDoNotCount() {
        packOf(9, 8, 7, 6, 5).then("unpack", 5).then("wipe").write(9, 1, 7, 6, 5).due(1, "alike");
    }

    static void promise10_alike_tillTheInputHasNoMore() {
        packOf(9, 8, 7).then("unpack", 3).then("wipe").write(9, 8).due(2, "alike");
    }

    static void promise10_alike_tillUnpackedHasNoMore() {
        packOf(9, 8, 7).then("unpack", 2).due(2, "alike");
    }

    static void promise10_alike_whatAShorterRowLeftBehindDoesNotCount() {
        // UNPACKED were 9, 8, 7, then 9 alone; THE INPUT was 9, 8, 7, then 9 alone.
        packOf(9, 8, 7).then("unpack", 3).then("unpack", 1).due(1, "alike").then("wipe").write(9).due(1, "alike")
                .then("unpack", 3).due(1, "alike");
    }

    static void promise10_alike_changesNothing() {
        Unchanged.neverChanges("alike");
    }

    // ---- 11

    static void promise11_grew_byIs0Or1() {
        for (int by : new int[] {-1, 2, LEAST_INT, GREATEST_INT}) {
            Unchanged.refusedAlways(BAD, "grew", by, 0);
        }
    }

    static void promise11_grew_whatIs0To2() {
        for (int what : new int[] {-1, 3, LEAST_INT, GREATEST_INT}) {
            Unchanged.refusedAlways(BAD, "grew", 0, what);
            Unchanged.refusedAlways(BAD, "grew", 1, what);
        }
    }

    static void promise11_grew_noneWasPackedYet() {
        for (int k = 0; k < 6; k++) {
            Unchanged.refused(Standing.NEW, NONE, "grew", k / 3, k % 3);
        }
        new Used().then("pack").then("unpack", 1).due(NONE, "grew", 0, 0).due(NONE, "grew", 1, 0);
    }

    static void promise11_grew_packedButNotUnpackedYet() {
        Used x = packOf(0);
        x.due(1, "grew", 0, 0).due(0, "grew", 0, 1).due(0, "grew", 0, 2);
        x.due(NONE, "grew", 1, 0).due(NONE, "grew", 1, 1).due(NONE, "grew", 1, 2);
        x.due(BAD, "unpack", 0).due(NONE, "grew", 1, 0);
    }

    static void promise11_grew_isOfTheLastOne() {
        // 8 is clonedTwice()'s row of bits: two states are cloned; 0 clones none.
        Used x = Used.by(0, 1, 1, 100, 0).write(8).then("pack").then("unpack", 1);
        x.due(3, "grew", 0, 0).due(2, "grew", 0, 1).due(0, "grew", 0, 2);
        x.due(3, "grew", 1, 0).due(2, "grew", 1, 1).due(0, "grew", 1, 2);
        x.then("wipe").write(0).then("pack").due(1, "grew", 0, 0).due(0, "grew", 0, 1).due(3, "grew", 1, 0);
        x.then("unpack", 1).due(1, "grew", 1, 0).due(0, "grew", 1, 1);
    }

    static void promise11_grew_aRefusedPackOrUnpackLeavesIt() {
        Used x = Used.by(0, 1, 1, 100, 0).write(8).then("pack").then("unpack", 1).then("wipe").then("set", 0, 2);
        x.due(NO, "pack").due(BAD, "unpack", 61).due(3, "grew", 0, 0).due(2, "grew", 0, 1).due(3, "grew", 1, 0);
    }

    static void promise11_grew_otherSettingsRenewAndBackLeaveIt() {
        Used x = Used.by(0, 1, 1, 100, 0).then("keep").write(8).then("pack").then("set", 0, 2).then("renew").take(1, 2);
        x.due(3, "grew", 0, 0).due(2, "grew", 0, 1).then("back").due(3, "grew", 0, 0).due(2, "grew", 0, 1);
    }

    /** 60 times 97 by a BRAID of 40: as the live machine grows by the same bits. */
    static void promise11_grew_droppedAndClonedAgain() {
        Used x = Used.by(2, 1, 1, 40, 0);
        Used live = Used.by(2, 1, 1, 40, 0).takeTimes(60, 97);
        for (int i = 0; i < 60; i++) {
            x.write(97);
        }
        x.then("pack").then("unpack", 60);
        Faults.must(live.call("live", 4) > 1, "it was dropped");
        for (int by = 0; by < 2; by++) {
            x.due(live.call("live", 0), "grew", by, 0).due(live.call("live", 3), "grew", by, 1)
                    .due(live.call("live", 4), "grew", by, 2);
        }
    }

    static void promise11_grew_exactlyWhenItIsDropped() {
        // 91 bits drop it: 12 bytes, then five bits more; 11 bytes do not.
        Used x = Used.by(2, 1, 1, 40, 0);
        for (int i = 0; i < 11; i++) {
            x.write(97);
        }
        x.then("pack").due(40, "grew", 0, 0).due(8, "grew", 0, 1).due(0, "grew", 0, 2);
        x.write(97).then("pack").due(32, "grew", 0, 0).due(8, "grew", 0, 1).due(1, "grew", 0, 2);
    }

    static void promise11_grew_changesNothing() {
        Unchanged.neverChanges("grew", 0, 0);
        Unchanged.neverChanges("grew", 1, 2);
    }
}
