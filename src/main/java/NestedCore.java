/**
 * A small processor whose exceptions nest by their priorities. The words used here are those of the
 * document: step, take, enter, return, chain, fault, level, due.
 */
public final class NestedCore {
    private static final int MEMORY_BYTES = 1024;
    private static final int AREAS = 4;
    private static final int MOST_STEPS = 25;

    private static final int SP = 13;
    private static final int LR = 14;
    private static final int PC = 15;
    private static final int REGISTERS = 16;

    private static final int PUT_MASK = 16;
    private static final int PUT_FAULTS = 17;
    private static final int PUT_FLOOR = 18;
    private static final int PUT_SPLIT = 19;
    private static final int PUT_RELOAD = 20;

    /** Stands for "no exception" and for "no fault"; the other numbers are those of the exceptions. */
    private static final int NONE = 0;
    private static final int ALWAYS = 2;
    private static final int HARD = 3;
    private static final int AREA = 4;
    private static final int BUS = 5;
    private static final int USAGE = 6;
    private static final int CALL = 7;
    private static final int TICK = 9;
    private static final int LAST = 15;

    private static final int READS = 1;
    private static final int WRITES = 2;

    private static final int HALTED_BY_FAULT = 1;
    private static final int HALTED_BY_FRAME = 2;

    private static final int RETURN_TO_BASE = -7;
    private static final int RETURN_TO_NESTED = -15;

    private static final int FRAME_BYTES = 32;
    private static final int STATUS_AT = 28;
    private static final int ODD_BIT = 1 << 9;
    private static final int NUMBER_BITS = 15;
    /** What stands in a frame below its status, the lowest word first. */
    private static final int[] FRAME = {0, 1, 2, 3, 12, 14, 15};

    private final int[] registers = new int[REGISTERS];
    private final int[] before = new int[REGISTERS];
    private final Memory memory = new Memory();
    private final Areas areas = new Areas();
    private final Exceptions exceptions = new Exceptions();
    private final Flags flags = new Flags();
    private final Ticker ticker = new Ticker();
    private int number;
    private int halted;
    private int taken;
    private int chained;
    private int faulted;

    public NestedCore() {
    }

    public void set(int address, int v) throws IllegalArgumentException {
        if (!memory.holdsWord(address)) {
            throw new IllegalArgumentException("no word at this address");
        }
        memory.store(address, v);
    }

    public int word(int address) throws IllegalArgumentException {
        if (!memory.holdsWord(address)) {
            throw new IllegalArgumentException("no word at this address");
        }
        return memory.load(address);
    }

    public void put(int r, int v) throws IllegalArgumentException {
        if (r < 0 || r > PUT_RELOAD) {
            throw new IllegalArgumentException("no such register");
        }
        switch (r) {
            case PC:
                registers[PC] = even(v);
                break;
            case PUT_MASK:
                exceptions.mask = v != 0;
                break;
            case PUT_FAULTS:
                exceptions.faults = v != 0;
                break;
            case PUT_FLOOR:
                exceptions.floor = v & 7;
                break;
            case PUT_SPLIT:
                exceptions.split = v & 3;
                break;
            case PUT_RELOAD:
                ticker.start(v & 255);
                break;
            default:
                registers[r] = v;
                break;
        }
    }

    public int register(int r) throws IllegalArgumentException {
        if (r < 0 || r > PUT_RELOAD) {
            throw new IllegalArgumentException("no such register");
        }
        switch (r) {
            case PUT_MASK:
                return exceptions.mask ? 1 : 0;
            case PUT_FAULTS:
                return exceptions.faults ? 1 : 0;
            case PUT_FLOOR:
                return exceptions.floor;
            case PUT_SPLIT:
                return exceptions.split;
            case PUT_RELOAD:
                return ticker.reload;
            default:
                return registers[r];
        }
    }

    public void rank(int e, int priority, boolean enabled) throws IllegalArgumentException {
        if (e < AREA || e > LAST || priority < 0 || priority > 7) {
            throw new IllegalArgumentException("no such exception or priority");
        }
        exceptions.order(e, priority, enabled);
    }

    public void pend(int e, boolean on) throws IllegalArgumentException {
        if (e < ALWAYS || e > LAST) {
            throw new IllegalArgumentException("no such exception");
        }
        exceptions.pending[e] = on;
    }

    public void area(int k, int from, int size, int right, boolean never) throws IllegalArgumentException {
        if (k < 0 || k >= AREAS || right < 0 || right > WRITES) {
            throw new IllegalArgumentException("no such area or right");
        }
        if (from < 0 || size < 0 || from > MEMORY_BYTES - size) {
            throw new IllegalArgumentException("not all in memory");
        }
        areas.lay(k, from, size, right, never);
    }

    public int run(int n) throws IllegalArgumentException {
        if (n < 1 || n > MOST_STEPS) {
            throw new IllegalArgumentException("not 1 to 25 steps");
        }
        int done = 0;
        while (done < n && halted == 0) {
            step();
            done++;
        }
        return done;
    }

    public int state(int what) throws IllegalArgumentException {
        switch (what) {
            case 0:
                return flags.packed();
            case 1:
                return number;
            case 2:
                return exceptions.level();
            case 3:
                return exceptions.due();
            case 4:
                return taken;
            case 5:
                return chained;
            case 6:
                return halted;
            case 7:
                return faulted;
            case 8:
                return ticker.counter;
            default:
                break;
        }
        if (what < 16 + ALWAYS || what > 16 + LAST) {
            throw new IllegalArgumentException("no such state");
        }
        return exceptions.packed(what - 16);
    }

    private static int even(int address) {
        return address & ~1;
    }

    private void step() {
        if (ticker.fires()) {
            exceptions.pending[TICK] = true;
        }
        int e = exceptions.due();
        if (e != NONE) {
            take(e);
            return;
        }
        System.arraycopy(registers, 0, before, 0, REGISTERS);
        int fault = fetchFault();
        if (fault == NONE) {
            fault = execute(fetch());
        }
        if (fault == NONE) {
            fault = land();
        }
        if (fault != NONE) {
            System.arraycopy(before, 0, registers, 0, REGISTERS);
            raise(fault);
        }
    }

    private void take(int e) {
        boolean odd = (registers[SP] & 7) != 0;
        int sp = registers[SP] - FRAME_BYTES - (odd ? 4 : 0);
        if (!memory.holdsFrame(sp)) {
            halted = HALTED_BY_FRAME;
            return;
        }
        for (int i = 0; i < FRAME.length; i++) {
            memory.store(sp + 4 * i, registers[FRAME[i]]);
        }
        memory.store(sp + STATUS_AT, flags.packed() << 28 | (odd ? ODD_BIT : 0) | number);
        registers[SP] = sp;
        registers[LR] = number == 0 ? RETURN_TO_BASE : RETURN_TO_NESTED;
        taken++;
        enter(e);
    }

    private void enter(int e) {
        exceptions.active[e] = true;
        exceptions.pending[e] = false;
        number = e;
        registers[PC] = even(memory.load(4 * e));
    }

    private void raise(int fault) {
        faulted++;
        int level = exceptions.level();
        if (exceptions.enabled[fault] && exceptions.group(fault) < level) {
            exceptions.pending[fault] = true;
        } else if (level > -1) {
            exceptions.pending[HARD] = true;
        } else {
            halted = HALTED_BY_FAULT;
        }
    }

    /**
     * Looks at where an instruction has led. Only BX and POP can leave an odd number in PC, so a
     * return's value that stands there has come by one of them.
     */
    private int land() {
        int to = registers[PC];
        if (number != 0 && (to == RETURN_TO_BASE || to == RETURN_TO_NESTED)) {
            return comeBack(to);
        }
        registers[PC] = even(to);
        return NONE;
    }

    private int comeBack(int value) {
        exceptions.leave(number);
        int e = exceptions.due();
        if (e != NONE) {
            registers[LR] = value;
            chained++;
            enter(e);
            return NONE;
        }
        int sp = registers[SP];
        if (!memory.holdsFrame(sp)) {
            return USAGE;
        }
        int status = memory.load(sp + STATUS_AT);
        int back = status & NUMBER_BITS;
        if (back == 1 || (back == 0) != (value == RETURN_TO_BASE)) {
            return USAGE;
        }
        unstack(sp, status);
        return NONE;
    }

    private void unstack(int sp, int status) {
        for (int i = 0; i < FRAME.length; i++) {
            registers[FRAME[i]] = memory.load(sp + 4 * i);
        }
        registers[PC] = even(registers[PC]);
        registers[SP] = sp + FRAME_BYTES + ((status & ODD_BIT) != 0 ? 4 : 0);
        flags.unpack(status >>> 28);
        number = status & NUMBER_BITS;
    }

    private int fetchFault() {
        if (!memory.holdsHalf(registers[PC])) {
            return BUS;
        }
        return areas.bars(registers[PC], READS, true) ? AREA : NONE;
    }

    private int fetch() {
        int address = registers[PC];
        registers[PC] = address + 2;
        return memory.half(address);
    }

    /** Does an instruction; what it answers, as all that it calls, is the fault or NONE. */
    private int execute(int half) {
        switch (half >> 12) {
            case 0:
            case 1:
                return half >> 11 < 3 ? shift(half) : addThree(half);
            case 2:
            case 3:
                return withNumber(half);
            case 4:
                return half >> 10 == 16 ? combine(half) : copyOrBranch(half);
            case 6:
                return move(half, half & 7, registers[half >> 3 & 7] + 4 * (half >> 6 & 31));
            case 9:
                return move(half, half >> 8 & 7, registers[SP] + 4 * (half & 255));
            case 11:
                return stackOrSwitch(half);
            case 13:
                return half >> 8 == 0xDF ? callOut() : branchIf(half);
            case 14:
                return branch(half);
            default:
                return USAGE;
        }
    }

    private int shift(int half) {
        int x = half & 7;
        int y = registers[half >> 3 & 7];
        int i = half >> 6 & 31;
        int kind = half >> 11;
        if (i != 0) {
            flags.c = (y >>> (kind == 0 ? 32 - i : i - 1) & 1) != 0;
        }
        registers[x] = kind == 0 ? y << i : kind == 1 ? y >>> i : y >> i;
        flags.ofResult(registers[x]);
        return NONE;
    }

    private int addThree(int half) {
        int x = half & 7;
        int y = registers[half >> 3 & 7];
        int z = registers[half >> 6 & 7];
        switch (half >> 9 & 3) {
            case 0:
                registers[x] = flags.sum(y, z, 0);
                return NONE;
            case 1:
                registers[x] = flags.difference(y, z);
                return NONE;
            default:
                return USAGE;
        }
    }

    private int withNumber(int half) {
        int x = half >> 8 & 7;
        int i = half & 255;
        switch (half >> 11 & 3) {
            case 0:
                registers[x] = i;
                flags.ofResult(i);
                break;
            case 1:
                flags.difference(registers[x], i);
                break;
            case 2:
                registers[x] = flags.sum(registers[x], i, 0);
                break;
            default:
                registers[x] = flags.difference(registers[x], i);
                break;
        }
        return NONE;
    }

    private int combine(int half) {
        int at = half & 7;
        int x = registers[at];
        int y = registers[half >> 3 & 7];
        switch (half >> 6 & 15) {
            case 0:
                return bits(at, x & y);
            case 1:
                return bits(at, x ^ y);
            case 5:
                registers[at] = flags.sum(x, y, flags.carry());
                return NONE;
            case 6:
                registers[at] = flags.sum(x, ~y, flags.carry());
                return NONE;
            case 8:
                flags.ofResult(x & y);
                return NONE;
            case 9:
                registers[at] = flags.difference(0, y);
                return NONE;
            case 10:
                flags.difference(x, y);
                return NONE;
            case 12:
                return bits(at, x | y);
            case 13:
                return bits(at, x * y);
            case 14:
                return bits(at, x & ~y);
            case 15:
                return bits(at, ~y);
            default:
                return USAGE;
        }
    }

    private int bits(int at, int result) {
        registers[at] = result;
        flags.ofResult(result);
        return NONE;
    }

    private int copyOrBranch(int half) {
        switch (half >> 8) {
            case 0x46:
                return copyAny(half);
            case 0x47:
                return branchTo(half);
            default:
                return USAGE;
        }
    }

    private int copyAny(int half) {
        int to = (half >> 4 & 8) + (half & 7);
        int from = half >> 3 & 15;
        if (to == PC) {
            return USAGE;
        }
        // PC stands behind the instruction already, and is read as its address plus 4.
        registers[to] = from == PC ? registers[PC] + 2 : registers[from];
        return NONE;
    }

    private int branchTo(int half) {
        int from = half >> 3 & 15;
        if ((half & 0x87) != 0 || from == PC) {
            return USAGE;
        }
        registers[PC] = registers[from];
        return NONE;
    }

    private int move(int half, int x, int address) {
        boolean back = (half >> 11 & 1) != 0;
        int fault = faultAlong(address, 1, back ? READS : WRITES);
        if (fault != NONE) {
            return fault;
        }
        if (back) {
            registers[x] = memory.load(address);
        } else {
            memory.store(address, registers[x]);
        }
        return NONE;
    }

    private int stackOrSwitch(int half) {
        switch (half >> 8 & 15) {
            case 0:
                int far = 4 * (half & 127);
                registers[SP] += (half & 128) == 0 ? far : -far;
                return NONE;
            case 4:
            case 5:
                return push(half & 511);
            case 12:
            case 13:
                return pop(half & 511);
            default:
                return switchOrNothing(half);
        }
    }

    private int push(int list) {
        int count = Integer.bitCount(list);
        if (count == 0) {
            return USAGE;
        }
        int sp = registers[SP] - 4 * count;
        int fault = faultAlong(sp, count, WRITES);
        if (fault != NONE) {
            return fault;
        }
        int at = sp;
        for (int k = 0; k <= 8; k++) {
            if ((list >> k & 1) != 0) {
                memory.store(at, registers[k == 8 ? LR : k]);
                at += 4;
            }
        }
        registers[SP] = sp;
        return NONE;
    }

    private int pop(int list) {
        int count = Integer.bitCount(list);
        if (count == 0) {
            return USAGE;
        }
        int at = registers[SP];
        int fault = faultAlong(at, count, READS);
        if (fault != NONE) {
            return fault;
        }
        for (int k = 0; k <= 8; k++) {
            if ((list >> k & 1) != 0) {
                registers[k == 8 ? PC : k] = memory.load(at);
                at += 4;
            }
        }
        registers[SP] = at;
        return NONE;
    }

    /** Looks at so many words from an address on: all of them for BUS before any for AREA. */
    private int faultAlong(int address, int count, int need) {
        for (int i = 0; i < count; i++) {
            if (!memory.holdsWord(address + 4 * i)) {
                return BUS;
            }
        }
        for (int i = 0; i < count; i++) {
            if (areas.bars(address + 4 * i, need, false)) {
                return AREA;
            }
        }
        return NONE;
    }

    private int switchOrNothing(int half) {
        switch (half) {
            case 0xBF00:
                return NONE;
            case 0xB662:
                exceptions.mask = false;
                return NONE;
            case 0xB672:
                exceptions.mask = true;
                return NONE;
            case 0xB661:
                exceptions.faults = false;
                return NONE;
            case 0xB671:
                if (exceptions.level() > -1) {
                    exceptions.faults = true;
                }
                return NONE;
            default:
                return USAGE;
        }
    }

    private int branchIf(int half) {
        int condition = half >> 8 & 15;
        if (condition > 13) {
            return USAGE;
        }
        if (flags.meet(condition)) {
            registers[PC] += 2 + 2 * (byte) half;
        }
        return NONE;
    }

    private int callOut() {
        if (exceptions.group(CALL) >= exceptions.level()) {
            return USAGE;
        }
        exceptions.pending[CALL] = true;
        return NONE;
    }

    private int branch(int half) {
        if ((half >> 11 & 1) != 0) {
            return USAGE;
        }
        // Shifted up to the sign's place and down again, eleven bits bring their sign along.
        registers[PC] += 2 + 2 * (half << 21 >> 21);
        return NONE;
    }

    /** Words alone are held; a half is a part of its word, the lower one at the lower address. */
    private static final class Memory {
        private static final int LAST_WORD = MEMORY_BYTES / 4 - 1;

        private final int[] words = new int[MEMORY_BYTES / 4];

        boolean holdsWord(int address) {
            return address >= 0 && address < MEMORY_BYTES && (address & 3) == 0;
        }

        boolean holdsHalf(int address) {
            return address >= 0 && address < MEMORY_BYTES && (address & 1) == 0;
        }

        boolean holdsFrame(int address) {
            return address >= 0 && address <= MEMORY_BYTES - FRAME_BYTES && (address & 3) == 0;
        }

        int load(int address) {
            return words[address >> 2 & LAST_WORD];
        }

        void store(int address, int v) {
            words[address >> 2 & LAST_WORD] = v;
        }

        int half(int address) {
            return load(address) >>> 8 * (address & 2) & 0xFFFF;
        }
    }

    /** An area that is off has no bytes, so nothing lies in it. */
    private static final class Areas {
        private final int[] starts = new int[AREAS];
        private final int[] sizes = new int[AREAS];
        private final int[] rights = new int[AREAS];
        private final boolean[] nevers = new boolean[AREAS];

        void lay(int k, int from, int size, int right, boolean never) {
            starts[k] = from;
            sizes[k] = size;
            rights[k] = right;
            nevers[k] = never;
        }

        boolean bars(int address, int need, boolean instruction) {
            for (int k = AREAS - 1; k >= 0; k--) {
                if (address >= starts[k] && address < starts[k] + sizes[k]) {
                    return rights[k] < need || instruction && nevers[k];
                }
            }
            return false;
        }
    }

    /** The exceptions by their numbers (0 and 1 are none), and all that makes the level. */
    private static final class Exceptions {
        private static final int NO_LEVEL = 8;

        final boolean[] enabled = new boolean[LAST + 1];
        final boolean[] pending = new boolean[LAST + 1];
        final boolean[] active = new boolean[LAST + 1];
        private final int[] priorities = new int[LAST + 1];
        int split;
        int floor;
        boolean mask;
        boolean faults;

        Exceptions() {
            priorities[ALWAYS] = -2;
            priorities[HARD] = -1;
            enabled[ALWAYS] = true;
            enabled[HARD] = true;
            for (int e = CALL; e <= TICK; e++) {
                enabled[e] = true;
            }
        }

        void order(int e, int priority, boolean on) {
            priorities[e] = priority;
            enabled[e] = on || e >= CALL && e <= TICK;
        }

        int group(int e) {
            return priorities[e] < 0 ? priorities[e] : priorities[e] >> split;
        }

        int level() {
            int level = NO_LEVEL;
            for (int e = ALWAYS; e <= LAST; e++) {
                if (active[e]) {
                    level = Math.min(level, group(e));
                }
            }
            if (floor != 0) {
                level = Math.min(level, floor >> split);
            }
            if (mask) {
                level = Math.min(level, 0);
            }
            return faults ? Math.min(level, -1) : level;
        }

        /** The next exception if it is due, or NONE. */
        int due() {
            int next = NONE;
            for (int e = ALWAYS; e <= LAST; e++) {
                // A priority is its group and, below that, its rest: the least one has the least of both.
                if (pending[e] && enabled[e] && (next == NONE || priorities[e] < priorities[next])) {
                    next = e;
                }
            }
            return next != NONE && group(next) < level() ? next : NONE;
        }

        void leave(int e) {
            active[e] = false;
            if (e != ALWAYS) {
                faults = false;
            }
        }

        int packed(int e) {
            return (pending[e] ? 1 : 0) + (active[e] ? 2 : 0) + (enabled[e] ? 4 : 0);
        }
    }

    private static final class Flags {
        private boolean n;
        private boolean z;
        boolean c;
        private boolean v;

        void ofResult(int result) {
            n = result < 0;
            z = result == 0;
        }

        int carry() {
            return c ? 1 : 0;
        }

        int sum(int a, int b, int carry) {
            long withSign = (long) a + b + carry;
            long without = (a & 0xFFFFFFFFL) + (b & 0xFFFFFFFFL) + carry;
            int result = (int) withSign;
            c = without >>> 32 != 0;
            v = withSign != result;
            ofResult(result);
            return result;
        }

        int difference(int a, int b) {
            return sum(a, ~b, 1);
        }

        /** The conditions 0 to 13 stand in pairs, the odd one saying no to the even one before it. */
        boolean meet(int condition) {
            boolean odd = (condition & 1) != 0;
            switch (condition >> 1) {
                case 0:
                    return z != odd;
                case 1:
                    return c != odd;
                case 2:
                    return n != odd;
                case 3:
                    return v != odd;
                case 4:
                    return (c && !z) != odd;
                case 5:
                    return (n == v) != odd;
                default:
                    return (!z && n == v) != odd;
            }
        }

        int packed() {
            return (n ? 8 : 0) + (z ? 4 : 0) + (c ? 2 : 0) + (v ? 1 : 0);
        }

        void unpack(int four) {
            n = (four & 8) != 0;
            z = (four & 4) != 0;
            c = (four & 2) != 0;
            v = (four & 1) != 0;
        }
    }

    private static final class Ticker {
        int reload;
        int counter;

        void start(int from) {
            reload = from;
            counter = from;
        }

        /** Counts one step; says whether the counter has come to 0 and begun anew. */
        boolean fires() {
            if (reload == 0) {
                return false;
            }
            counter--;
            if (counter != 0) {
                return false;
            }
            counter = reload;
            return true;
        }
    }
}
