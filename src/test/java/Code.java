/** Puts instructions together by their fields, and into a core's memory. */
final class Code {
    static final int NOTHING = 0xBF00;
    static final int MASK_OFF = 0xB662;
    static final int MASK_ON = 0xB672;
    static final int FAULTS_OFF = 0xB661;
    static final int FAULTS_ON = 0xB671;
    static final int CALL = 0xDF00;
    /** One of the halves that are no instruction. */
    static final int UNKNOWN = 0xDE00;
    static final int START = 256;
    static final int N = 8;
    static final int Z = 4;
    static final int C = 2;
    static final int V = 1;

    private Code() {
    }

    static int shift(int kind, int x, int y, int i) {
        return kind << 11 | i << 6 | y << 3 | x;
    }

    static int add(int x, int y, int z) {
        return 0x1800 | z << 6 | y << 3 | x;
    }

    static int sub(int x, int y, int z) {
        return 0x1A00 | z << 6 | y << 3 | x;
    }

    static int number(int kind, int x, int i) {
        return 0x2000 | kind << 11 | x << 8 | i;
    }

    static int mov(int x, int i) {
        return number(0, x, i);
    }

    static int cmp(int x, int i) {
        return number(1, x, i);
    }

    static int combine(int kind, int x, int y) {
        return 0x4000 | kind << 6 | y << 3 | x;
    }

    static int copy(int to, int from) {
        return 0x4600 | (to & 8) << 4 | from << 3 | to & 7;
    }

    static int bx(int from) {
        return 0x4700 | from << 3;
    }

    static int store(int x, int y, int i) {
        return 0x6000 | i << 6 | y << 3 | x;
    }

    static int load(int x, int y, int i) {
        return 0x6800 | i << 6 | y << 3 | x;
    }

    static int storeSp(int x, int i) {
        return 0x9000 | x << 8 | i;
    }

    static int loadSp(int x, int i) {
        return 0x9800 | x << 8 | i;
    }

    static int spPlus(int i) {
        return 0xB000 | i;
    }

    static int spLess(int i) {
        return 0xB080 | i;
    }

    static int push(int list) {
        return 0xB400 | list;
    }

    static int pop(int list) {
        return 0xBC00 | list;
    }

    static int branchIf(int condition, int far) {
        return 0xD000 | condition << 8 | far & 255;
    }

    static int branch(int far) {
        return 0xE000 | far & 2047;
    }

    /** Writes halves from an address divisible by 4 on; an odd count is filled up by a nothing. */
    static void write(NestedCore core, int address, int... halves) {
        for (int i = 0; i < halves.length; i += 2) {
            int upper = i + 1 < halves.length ? halves[i + 1] : NOTHING;
            core.set(address + 2 * i, halves[i] | upper << 16);
        }
    }

    /** A core with halves at START, PC there and SP at the end of memory. */
    static NestedCore core(int... halves) {
        NestedCore core = new NestedCore();
        write(core, START, halves);
        core.put(15, START);
        core.put(13, 1024);
        return core;
    }

    /** A core as above whose flags have come back from a frame; registers and PC are as told there. */
    static NestedCore flagged(int flags, int... halves) {
        NestedCore core = core(halves);
        handler(core, 10, 512, bx(14));
        core.rank(10, 0, true);
        core.pend(10, true);
        core.run(1);
        core.set(1020, flags << 28);
        core.run(1);
        return core;
    }

    /** Lets exception e be handled by halves at an address. */
    static void handler(NestedCore core, int e, int address, int... halves) {
        core.set(4 * e, address);
        write(core, address, halves);
    }
}
