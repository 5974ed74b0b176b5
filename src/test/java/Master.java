/** The master of the serial line: it makes frames, and changes its FCB with each counted one. */
final class Master {
    final TelecontrolPost post;
    final int address;
    private int bit = 0;

    Master(TelecontrolPost post, int address) {
        this.post = post;
        this.address = address;
    }

    /** Set up and reset, with the answer taken. */
    static Master reset(TelecontrolPost post, int address, int cause, int station, int object) {
        post.serial(address, cause, station, object);
        Master master = new Master(post, address);
        master.reset();
        return master;
    }

    void reset() {
        shortFrame(64);
        bit = 0;
        Peer.takeBytes(post, 3, 300);
    }

    static int[] shortBytes(int control, int address) {
        return new int[] {16, control, address, control + address & 255, 22};
    }

    static int[] longBytes(int control, int address, int... asdu) {
        int[] frame = new int[asdu.length + 8];
        int sum = control + address;
        frame[0] = 104;
        frame[1] = asdu.length + 2;
        frame[2] = asdu.length + 2;
        frame[3] = 104;
        frame[4] = control;
        frame[5] = address;
        for (int i = 0; i < asdu.length; i++) {
            frame[6 + i] = asdu[i];
            sum += asdu[i];
        }
        frame[asdu.length + 6] = sum & 255;
        frame[asdu.length + 7] = 22;
        return frame;
    }

    int shortFrame(int control) {
        return Peer.give(post, 3, shortBytes(control, address));
    }

    int longFrame(int control, int... asdu) {
        return Peer.give(post, 3, longBytes(control, address, asdu));
    }

    /** Function 3 with the next FCB. */
    void ask(int... asdu) {
        bit ^= 32;
        longFrame(64 + bit + 16 + 3, asdu);
    }

    void askClass(int which) {
        bit ^= 32;
        shortFrame(64 + bit + 16 + 9 + which);
    }

    void askClassAgain(int which) {
        shortFrame(64 + bit + 16 + 9 + which);
    }

    void askAgain(int... asdu) {
        longFrame(64 + bit + 16 + 3, asdu);
    }

    int[] takeAnswer() {
        return Peer.takeBytes(post, 3, 300);
    }

    void expectShort(String what, int control) {
        Check.sameBytes(what, takeAnswer(), shortBytes(control, address));
    }

    void expectLong(String what, int control, int... asdu) {
        Check.sameBytes(what, takeAnswer(), longBytes(control, address, asdu));
    }

    void expectNothing(String what) {
        Check.sameBytes(what, takeAnswer());
    }
}
