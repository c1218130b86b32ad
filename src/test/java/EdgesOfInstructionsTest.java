/** One test for each sentence on an instruction that names an edge: its fields, its reach, what it refuses. */
public final class EdgesOfInstructionsTest {
    private static final int MIN = Integer.MIN_VALUE;
    private static final int MAX = Integer.MAX_VALUE;
    private static final int USAGE = 6;

    public static void main(String[] args) {
        Check check = new Check();
        shiftsByEveryNumber(check);
        shiftsByZero(check);
        shiftsOfEveryRegister(check);
        sumsOfEveryRegister(check);
        noOtherSums(check);
        everyNumber(check);
        combinesEveryRegister(check);
        noOtherCombinations(check);
        carryGoesIn(check);
        carryAndOverflow(check);
        movesNotToPc(check);
        pcIsReadAsFourOn(check);
        bxNotOfPc(check);
        bxWithZeroBits(check);
        wordsByEveryNumber(check);
        wordsByStackPointer(check);
        stackPointerByEveryNumber(check);
        atLeastOneRegister(check);
        everySingleRegister(check);
        poppedPcIsLast(check);
        pushedToTheEdges(check);
        branchesByEveryNumber(check);
        noConditionFourteen(check);
        callNotBelowTheLevel(check);
        longBranches(check);
        switchesAndNothing(check);
        faultsOnlyIfAbove(check);
        allOthersAreUsage(check);
        check.end();
    }

    private static NestedCore one(int half, int flags) {
        NestedCore core = Code.flagged(flags, half);
        for (int r = 0; r <= 7; r++) {
            core.put(r, value(r));
        }
        return core;
    }

    private static int value(int r) {
        return 0x01234567 * (r + 1) + (r << 29);
    }

    private static boolean isUsage(int half) {
        NestedCore core = Code.core(half);
        core.rank(USAGE, 0, true);
        core.run(1);
        return core.state(16 + USAGE) == 5 && core.register(15) == Code.START;
    }

    /** "shifted up, down, down with sign by i: NZ, C the bit that fell out last", V stays. */
    private static void shiftsByEveryNumber(Check check) {
        int[] values = {0, 1, -1, MIN, MAX, 0x5A5A5A5A, 0xA5A5A5A5};
        for (int kind = 0; kind <= 2; kind++) {
            for (int i = 1; i <= 31; i++) {
                for (int y : values) {
                    NestedCore core = Code.core(Code.shift(kind, 2, 3, i));
                    core.put(3, y);
                    core.run(1);
                    int due = kind == 0 ? y << i : kind == 1 ? y >>> i : y >> i;
                    int out = kind == 0 ? y >>> 32 - i & 1 : y >>> i - 1 & 1;
                    String what = "shift " + kind + " of " + y + " by " + i;
                    check.same(what, core.register(2), due);
                    check.same(what + ": flags", core.state(0), (due < 0 ? 8 : 0) + (due == 0 ? 4 : 0) + 2 * out);
                }
            }
        }
    }

    /** "(i 0: x becomes y, C stays)". */
    private static void shiftsByZero(Check check) {
        int[] values = {0, 1, -1, MIN};
        for (int kind = 0; kind <= 2; kind++) {
            for (int y : values) {
                for (int flags = 0; flags <= 15; flags++) {
                    NestedCore core = one(Code.shift(kind, 2, 3, 0), flags);
                    core.put(3, y);
                    core.run(1);
                    check.same("shift " + kind + " of " + y + " by 0", core.register(2), y);
                    check.same("its flags", core.state(0), (y < 0 ? 8 : 0) + (y == 0 ? 4 : 0) + (flags & 3));
                }
            }
        }
    }

    /** After one step all of R0 .. R7 but x are as they were. */
    private static void othersStay(Check check, String what, NestedCore core, int x) {
        for (int r = 0; r <= 7; r++) {
            if (r != x) {
                check.same(what + ": R" + r, core.register(r), value(r));
            }
        }
    }

    /** "x (bits 2 .. 0) becomes y (5 .. 3)". */
    private static void shiftsOfEveryRegister(Check check) {
        for (int x = 0; x <= 7; x++) {
            for (int y = 0; y <= 7; y++) {
                NestedCore core = one(Code.shift(1, x, y, 4), 0);
                core.run(1);
                check.same("R" + x + " by R" + y, core.register(x), value(y) >>> 4);
                othersStay(check, "R" + x + " by R" + y, core, x);
            }
        }
    }

    /** "x becomes y (5 .. 3) plus, less z (8 .. 6)". */
    private static void sumsOfEveryRegister(Check check) {
        for (int x = 0; x <= 7; x++) {
            for (int y = 0; y <= 7; y++) {
                for (int z = 0; z <= 7; z++) {
                    String what = "R" + x + " by R" + y + " and R" + z;
                    NestedCore plus = one(Code.add(x, y, z), 0);
                    plus.run(1);
                    check.same(what + ", plus", plus.register(x), value(y) + value(z));
                    NestedCore less = one(Code.sub(x, y, z), 0);
                    less.run(1);
                    check.same(what + ", less", less.register(x), value(y) - value(z));
                    othersStay(check, what, less, x);
                }
            }
        }
    }

    /** "0001100, 0001101 (bits 15 .. 9)": 0001110 and 0001111 are none. */
    private static void noOtherSums(Check check) {
        for (int half = 0x1C00; half <= 0x1FFF; half += 73) {
            check.same("USAGE by " + Integer.toHexString(half), isUsage(half) ? 1 : 0, 1);
        }
        check.same("USAGE by 1bff", isUsage(0x1BFF) ? 1 : 0, 0);
        check.same("USAGE by 1c00", isUsage(0x1C00) ? 1 : 0, 1);
        check.same("USAGE by 1fff", isUsage(0x1FFF) ? 1 : 0, 1);
        check.same("USAGE by 2000", isUsage(0x2000) ? 1 : 0, 0);
    }

    private static int flagsOf(int result, boolean carry, boolean overflow) {
        return (result < 0 ? 8 : 0) + (result == 0 ? 4 : 0) + (carry ? 2 : 0) + (overflow ? 1 : 0);
    }

    /** "(x 10 .. 8, i 7 .. 0): x becomes i: NZ; x is compared with i; x plus i; x less i: NZCV". */
    private static void everyNumber(Check check) {
        int[] numbers = {0, 1, 127, 128, 255};
        for (int x = 0; x <= 7; x++) {
            for (int i : numbers) {
                int v = value(x);
                int[] due = {i, v, v + i, v - i};
                boolean borrowless = Integer.compareUnsigned(v, i) >= 0;
                int less = flagsOf(v - i, borrowless, (long) v - i != v - i);
                boolean carry = Integer.compareUnsigned(v + i, v) < 0;
                int[] flags = {flagsOf(i, true, true), less, flagsOf(v + i, carry, (long) v + i != v + i), less};
                for (int kind = 0; kind <= 3; kind++) {
                    NestedCore core = one(Code.number(kind, x, i), 15);
                    core.run(1);
                    String what = "R" + x + ", kind " + kind + ", " + i;
                    check.same(what, core.register(x), due[kind]);
                    check.same(what + ": flags", core.state(0), flags[kind]);
                    othersStay(check, what, core, x);
                }
            }
        }
    }

    private static int combined(int kind, int x, int y) {
        switch (kind) {
            case 0:
                return x & y;
            case 1:
                return x ^ y;
            case 5:
                return x + y + 1;
            case 6:
                return x - y;
            case 9:
                return -y;
            case 12:
                return x | y;
            case 13:
                return x * y;
            case 14:
                return x & ~y;
            case 15:
                return ~y;
            default:
                return x;
        }
    }

    /** "by bits 9 .. 6, y 5 .. 3, x 2 .. 0". C is on before. */
    private static void combinesEveryRegister(Check check) {
        int[] kinds = {0, 1, 5, 6, 8, 9, 10, 12, 13, 14, 15};
        for (int kind : kinds) {
            for (int x = 0; x <= 7; x++) {
                for (int y = 0; y <= 7; y++) {
                    NestedCore core = one(Code.combine(kind, x, y), Code.C);
                    core.run(1);
                    String what = "combination " + kind + " of R" + x + " and R" + y;
                    check.same(what, core.register(x), combined(kind, value(x), value(y)));
                    othersStay(check, what, core, x);
                }
            }
        }
    }

    /** 2, 3, 4, 7 and 11 stand for nothing. */
    private static void noOtherCombinations(Check check) {
        for (int kind = 0; kind <= 15; kind++) {
            boolean none = kind >= 2 && kind <= 4 || kind == 7 || kind == 11;
            for (int low = 0; low <= 63; low++) {
                check.same("USAGE by combination " + kind, isUsage(0x4000 | kind << 6 | low) ? 1 : 0, none ? 1 : 0);
            }
        }
    }

    private static void carries(Check check, int kind, int a, int b, int c) {
        NestedCore core = one(Code.combine(kind, 4, 5), c == 1 ? Code.C : 0);
        core.put(4, a);
        core.put(5, b);
        core.run(1);
        int other = kind == 5 ? b : ~b;
        long with = (long) a + other + c;
        long without = (a & 0xFFFFFFFFL) + (other & 0xFFFFFFFFL) + c;
        String what = "combination " + kind + " of " + a + " and " + b + " with C " + c;
        check.same(what, core.register(4), (int) with);
        check.same(what + ": flags", core.state(0), flagsOf((int) with, without >= 1L << 32, with != (int) with));
    }

    private static final int[] SHARP = {0, 1, 2, -1, -2, MAX, MAX - 1, MIN, MIN + 1};

    /** "5 x plus y plus C, 6 x less y less 1 and plus C". */
    private static void carryGoesIn(Check check) {
        for (int a : SHARP) {
            for (int b : SHARP) {
                for (int c = 0; c <= 1; c++) {
                    carries(check, 5, a, b, c);
                    carries(check, 6, a, b, c);
                }
            }
        }
    }

    /** "C is the carry out of bit 31, V whether the sum with sign is another one; differences a - b are ...". */
    private static void carryAndOverflow(Check check) {
        for (int a : SHARP) {
            for (int b : SHARP) {
                int difference = flagsOf(a - b, Integer.compareUnsigned(a, b) >= 0, (long) a - b != a - b);
                int negative = flagsOf(-b, b == 0, b == MIN);
                int sum = flagsOf(a + b, Integer.compareUnsigned(a + b, a) < 0, (long) a + b != a + b);
                int[] halves = {Code.add(0, 4, 5), Code.sub(0, 4, 5), Code.combine(10, 4, 5), Code.combine(9, 4, 5)};
                int[] due = {sum, difference, difference, negative};
                for (int i = 0; i < halves.length; i++) {
                    for (int begin = 0; begin <= 15; begin += 15) {
                        NestedCore core = one(halves[i], begin);
                        core.put(4, a);
                        core.put(5, b);
                        core.run(1);
                        check.same(a + ", " + b + " by " + Integer.toHexString(halves[i]), core.state(0), due[i]);
                    }
                }
            }
        }
    }

    /** "R(8 * bit 7 + bits 2 .. 0) becomes R(bits 6 .. 3), not for 15". */
    private static void movesNotToPc(Check check) {
        for (int from = 0; from <= 15; from++) {
            check.same("USAGE by R15 from R" + from, isUsage(Code.copy(15, from)) ? 1 : 0, 1);
            check.same("USAGE by R14 from R" + from, isUsage(Code.copy(14, from)) ? 1 : 0, 0);
            check.same("USAGE by R7 from R" + from, isUsage(Code.copy(7, from)) ? 1 : 0, 0);
        }
    }

    /** "PC read by an instruction (as y of a move) is its address plus 4." */
    private static void pcIsReadAsFourOn(Check check) {
        int[] addresses = {0, 2, 256, 258, 1020, 1022};
        for (int address : addresses) {
            NestedCore core = new NestedCore();
            core.set(address & ~3, Code.copy(8, 15) << 8 * (address & 2));
            core.put(15, address);
            core.run(1);
            check.same("R8 by PC at " + address, core.register(8), address + 4);
        }
    }

    /** "BX R(bits 6 .. 3), not 15". */
    private static void bxNotOfPc(Check check) {
        for (int from = 0; from <= 15; from++) {
            check.same("USAGE by BX R" + from, isUsage(Code.bx(from)) ? 1 : 0, from == 15 ? 1 : 0);
        }
    }

    /** "01000111 0 and 000 as bits 2 .. 0". */
    private static void bxWithZeroBits(Check check) {
        for (int low = 0; low <= 7; low++) {
            check.same("USAGE by BX and " + low, isUsage(Code.bx(3) | low) ? 1 : 0, low == 0 ? 0 : 1);
            check.same("USAGE by BX, bit 7 and " + low, isUsage(Code.bx(3) | 0x80 | low) ? 1 : 0, 1);
        }
    }

    /** "(i 10 .. 6, y 5 .. 3, x 2 .. 0): the word at y + 4 * i becomes x, x becomes it". */
    private static void wordsByEveryNumber(Check check) {
        for (int i = 0; i <= 31; i++) {
            for (int x = 0; x <= 7; x++) {
                int y = x * 3 + i & 7;
                NestedCore store = one(Code.store(x, y, i), 0);
                store.put(y, 600);
                int due = store.register(x);
                store.run(1);
                check.same("the word by R" + x + ", R" + y + " and " + i, store.word(600 + 4 * i), due);
                NestedCore load = one(Code.load(x, y, i), 0);
                load.put(y, 600);
                load.set(600 + 4 * i, -9);
                load.run(1);
                check.same("R" + x + " by R" + y + " and " + i, load.register(x), -9);
                check.same("flags", load.state(0), 0);
            }
        }
    }

    /** "(x 10 .. 8, i 7 .. 0): likewise at SP + 4 * i". */
    private static void wordsByStackPointer(Check check) {
        int[] numbers = {0, 1, 31, 127, 128, 254, 255};
        for (int i : numbers) {
            for (int x = 0; x <= 7; x++) {
                NestedCore store = one(Code.storeSp(x, i), 0);
                store.put(13, 1020 - 4 * i);
                store.run(1);
                check.same("the last word by SP and " + i, store.word(1020), value(x));
                NestedCore load = one(Code.loadSp(x, i), 0);
                load.put(13, 1020 - 4 * i);
                load.set(1020, -9);
                load.run(1);
                check.same("R" + x + " by SP and " + i, load.register(x), -9);
                check.same("SP", load.register(13), 1020 - 4 * i);
                NestedCore beyond = one(Code.loadSp(x, i), 0);
                beyond.put(13, 1024 - 4 * i);
                beyond.run(1);
                check.same("a fault behind memory", beyond.state(7), 1);
            }
        }
    }

    /** "101100000 and 101100001 (i 6 .. 0): SP plus, less 4 * i". */
    private static void stackPointerByEveryNumber(Check check) {
        for (int i = 0; i <= 127; i++) {
            NestedCore core = Code.core(Code.spPlus(i), Code.spLess(i), Code.spLess(i));
            core.put(13, 6);
            core.run(1);
            check.same("SP plus 4 * " + i, core.register(13), 6 + 4 * i);
            core.run(2);
            check.same("SP less 4 * " + i, core.register(13), 6 - 4 * i);
            check.same("no fault", core.state(7), 0);
        }
    }

    /** "These two with at least one register." */
    private static void atLeastOneRegister(Check check) {
        check.same("USAGE by a push of none", isUsage(Code.push(0)) ? 1 : 0, 1);
        check.same("USAGE by a pop of none", isUsage(Code.pop(0)) ? 1 : 0, 1);
        NestedCore core = Code.core(Code.pop(0));
        core.rank(5, 0, true);
        core.rank(USAGE, 1, true);
        core.put(13, 3);
        core.run(1);
        check.same("that is USAGE wherever SP is", core.state(3), USAGE);
    }

    /** "the registers of bits 0 .. 7, and LR for bit 8"; "SP falls by 4 for each"; "PC for bit 8". */
    private static void everySingleRegister(Check check) {
        for (int bit = 0; bit <= 8; bit++) {
            NestedCore push = one(Code.push(1 << bit), 0);
            push.put(14, 9014);
            push.run(1);
            check.same("pushed by bit " + bit, push.word(1020), bit == 8 ? 9014 : value(bit));
            check.same("SP", push.register(13), 1020);
            NestedCore pop = one(Code.pop(1 << bit), 0);
            pop.put(13, 1020);
            pop.set(1020, 301);
            pop.run(1);
            check.same("popped by bit " + bit, pop.register(bit == 8 ? 15 : bit), bit == 8 ? 300 : 301);
            check.same("LR stays", pop.register(14), 0);
            check.same("SP", pop.register(13), 1024);
            check.same("PC", pop.register(15), bit == 8 ? 300 : Code.START + 2);
            othersStay(check, "popped by bit " + bit, pop, bit);
        }
    }

    /** "PC for bit 8 (last; without its lowest bit, or a RETURN, after SP has grown)". */
    private static void poppedPcIsLast(Check check) {
        NestedCore core = one(Code.pop(0x1FF), 0);
        core.put(13, 988);
        for (int i = 0; i <= 8; i++) {
            core.set(988 + 4 * i, 401 + i);
        }
        core.run(1);
        for (int r = 0; r <= 7; r++) {
            check.same("R" + r, core.register(r), 401 + r);
        }
        check.same("PC", core.register(15), 408);
        check.same("SP", core.register(13), 1024);
        NestedCore back = Code.core();
        Code.handler(back, 10, 512, Code.pop(0x180));
        back.rank(10, 0, true);
        back.put(7, 70);
        back.pend(10, true);
        back.run(1);
        back.put(13, 984);
        back.set(984, 71);
        back.set(988, -7);
        back.run(1);
        check.same("the frame above what was popped", back.register(13), 1024);
        check.same("R7 came by the pop", back.register(7), 71);
        check.same("the number", back.state(1), 0);
    }

    /** "go to words below SP, the least number lowest": the whole of memory is theirs. */
    private static void pushedToTheEdges(Check check) {
        NestedCore low = one(Code.push(0x1FF), 0);
        low.put(13, 36);
        low.put(14, 9014);
        low.run(1);
        for (int i = 0; i <= 8; i++) {
            check.same("word " + 4 * i, low.word(4 * i), i == 8 ? 9014 : value(i));
        }
        check.same("SP", low.register(13), 0);
        NestedCore lower = one(Code.push(0x1FF), 0);
        lower.put(13, 32);
        lower.run(1);
        check.same("one word too low", lower.state(7), 1);
        check.same("the first word", lower.word(0), 0);
        NestedCore high = one(Code.push(1), 0);
        high.put(13, 1028);
        high.run(1);
        check.same("one word too high", high.state(7), 1);
    }

    /** "its address plus 4 plus 2 * the lowest 8 bits with sign". */
    private static void branchesByEveryNumber(Check check) {
        for (int far = -128; far <= 127; far++) {
            NestedCore core = Code.core(Code.branchIf(1, far));
            core.run(1);
            check.same("a branch by " + far, core.register(15), Code.START + 4 + 2 * far);
            NestedCore not = Code.core(Code.branchIf(0, far));
            not.run(1);
            check.same("no branch by " + far, not.register(15), Code.START + 2);
        }
    }

    /** 14 is none of the conditions; 15 stands for CALL. */
    private static void noConditionFourteen(Check check) {
        for (int low = 0; low <= 255; low++) {
            check.same("USAGE by de and " + low, isUsage(0xDE00 | low) ? 1 : 0, 1);
            check.same("USAGE by dd and " + low, isUsage(0xDD00 | low) ? 1 : 0, 0);
            check.same("USAGE by df and " + low, isUsage(0xDF00 | low) ? 1 : 0, 0);
        }
    }

    /** "a fault as for USAGE if 7's group is not below the level". */
    private static void callNotBelowTheLevel(Check check) {
        for (int priority = 0; priority <= 7; priority++) {
            for (int floor = 0; floor <= 7; floor++) {
                for (int split = 0; split <= 3; split++) {
                    NestedCore core = Code.core(Code.CALL);
                    core.rank(7, priority, true);
                    core.put(18, floor);
                    core.put(19, split);
                    core.run(1);
                    boolean due = priority >> split < (floor == 0 ? 8 : floor >> split);
                    String what = "a call of " + priority + ", FLOOR " + floor + ", split " + split;
                    check.same(what + ": 7", core.state(23), due ? 5 : 4);
                    check.same(what + ": faults", core.state(7), due ? 0 : 1);
                    check.same(what + ": PC", core.register(15), Code.START + (due ? 2 : 0));
                }
            }
        }
        NestedCore itself = Code.core(Code.CALL);
        Code.handler(itself, 7, 512, Code.CALL);
        itself.run(3);
        check.same("a call in CALL is a fault", itself.state(7), 1);
        check.same("that becomes HARD", itself.state(3), 3);
    }

    /** "its address plus 4 plus 2 * bits 10 .. 0 with sign". */
    private static void longBranches(Check check) {
        for (int far = -1024; far <= 1023; far++) {
            NestedCore core = Code.core(Code.branch(far));
            core.run(1);
            check.same("a branch by " + far, core.register(15), Code.START + 4 + 2 * far);
        }
    }

    /** "BF00h nothing. B662h, B672h: MASK goes off, on; B661h, B671h: FAULTS": no other of B6.. and BF... */
    private static void switchesAndNothing(Check check) {
        for (int low = 0; low <= 255; low++) {
            boolean known = low == 0x61 || low == 0x62 || low == 0x71 || low == 0x72;
            check.same("USAGE by b6 and " + low, isUsage(0xB600 | low) ? 1 : 0, known ? 0 : 1);
            check.same("USAGE by bf and " + low, isUsage(0xBF00 | low) ? 1 : 0, low == 0 ? 0 : 1);
        }
        int[] halves = {Code.NOTHING, Code.MASK_OFF, Code.MASK_ON, Code.FAULTS_OFF, Code.FAULTS_ON};
        for (int half : halves) {
            for (int mask = 0; mask <= 1; mask++) {
                NestedCore core = Code.flagged(6, half);
                core.put(16, mask);
                core.run(1);
                int due = half == Code.MASK_ON ? 1 : half == Code.MASK_OFF ? 0 : mask;
                String what = Integer.toHexString(half) + " with MASK " + mask;
                check.same(what + ": MASK", core.register(16), due);
                check.same(what + ": FAULTS", core.register(17), half == Code.FAULTS_ON ? 1 : 0);
                check.same(what + ": flags", core.state(0), 6);
                check.same(what + ": PC", core.register(15), Code.START + 2);
            }
        }
    }

    /** "FAULTS (on only if the level is above -1)": else it is left, and that is no fault. */
    private static void faultsOnlyIfAbove(Check check) {
        NestedCore masked = Code.core(Code.FAULTS_ON);
        masked.put(16, 1);
        masked.run(1);
        check.same("FAULTS at the level 0", masked.register(17), 1);
        for (int e = 2; e <= 3; e++) {
            NestedCore core = Code.core();
            Code.handler(core, e, 512, Code.FAULTS_ON);
            core.pend(e, true);
            core.run(2);
            check.same("FAULTS in " + e, core.register(17), 0);
            check.same("faults in " + e, core.state(7), 0);
            check.same("PC in " + e, core.register(15), 514);
        }
        NestedCore on = Code.core(Code.FAULTS_ON);
        on.put(17, 1);
        on.run(1);
        check.same("FAULTS that was on", on.register(17), 1);
        check.same("HALTED", on.state(6), 0);
    }

    /** "All others are USAGE.": the first and the last half of each gap. */
    private static void allOthersAreUsage(Check check) {
        int[][] gaps = {
            {0x1C00, 0x1FFF}, {0x4400, 0x45FF}, {0x4778, 0x477F}, {0x4780, 0x5FFF}, {0x7000, 0x8FFF}, {0xA000, 0xAFFF},
            {0xB100, 0xB3FF}, {0xB600, 0xB660}, {0xB663, 0xB670}, {0xB673, 0xBBFF}, {0xBE00, 0xBEFF}, {0xBF01, 0xCFFF},
            {0xDE00, 0xDEFF}, {0xE800, 0xFFFF},
        };
        for (int[] gap : gaps) {
            check.same("USAGE by " + Integer.toHexString(gap[0]), isUsage(gap[0]) ? 1 : 0, 1);
            check.same("USAGE by " + Integer.toHexString(gap[1]), isUsage(gap[1]) ? 1 : 0, 1);
        }
        int[] edges = {
            0x1BFF, 0x2000, 0x4346, 0x4600, 0x4770, 0x6000, 0x6FFF, 0x9000, 0x9FFF, 0xB000, 0xB0FF, 0xB401, 0xB5FF, 0xB661,
            0xB662, 0xB671, 0xB672, 0xBC01, 0xBDFF, 0xBF00, 0xD000, 0xDDFF, 0xDF00, 0xDFFF, 0xE000, 0xE7FF,
        };
        for (int half : edges) {
            check.same("USAGE by " + Integer.toHexString(half), isUsage(half) ? 1 : 0, 0);
        }
    }
}
