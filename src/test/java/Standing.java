/** How things stand when a call is tried: always brought about by the same calls. */
enum Standing {
    NEW, BUSY, FULL_UP;

    Used made() {
        switch (this) {
            case NEW:
                return new Used();
            case BUSY:
                return busy();
            default:
                return fullUp();
        }
    }

    /** Nothing is empty, nothing is full, and no setting is as at first. */
    private static Used busy() {
        Used x = Used.by(1, 1, 1, 60, 0).take(97, 98, 97, 99, 97, 98).then("keep");
        x.then("set", 0, 2).then("set", 2, 3).then("set", 3, 41).then("set", 4, 1);
        x.take(97, 98, 97, 98, 97, 98, 97, 98, 97, 97).bits("101");
        x.write(9, 8, 7, 6, 5).then("pack").then("spoil", 4, 77).then("unpack", 7);
        return x.then("wipe").write(9, 8, 200);
    }

    /** 60 bytes of THE INPUT and UNPACKED, MOST states, two KEPT. */
    private static Used fullUp() {
        Used x = Used.by(0, 1, 1, 40, 0).then("keep").take(1, 2, 3).then("keep").then("renew");
        for (int i = 0; i < 19; i++) {
            x.take(new int[] {0x5A, 0x3C, 0x96, 0xE1}[i % 4]);
        }
        for (int i = 0; i < 60; i++) {
            x.write((i * 37 + 11) & 255);
        }
        return x.then("pack").then("unpack", 60);
    }
}
