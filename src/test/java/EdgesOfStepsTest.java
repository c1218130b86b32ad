import java.util.List;

/** One test for each sentence on a step, to take, a return and a fault that names an edge. */
public final class EdgesOfStepsTest {
    private static final int MIN = Integer.MIN_VALUE;
    private static final int MAX = Integer.MAX_VALUE;
    private static final int HANDLER = 512;

    public static void main(String[] args) {
        Check check = new Check();
        nothingWhileHalted(check);
        tickerOffForReloadZero(check);
        counterAtZero(check);
        tickBeforeWhatIsDue(check);
        takenIsTheWholeStep(check);
        lessFourMoreIfOdd(check);
        frameNotAllInMemory(check);
        pointerNotDividedByFour(check);
        areasDoNotCountForFrames(check);
        statusHasFlagsOddAndNumber(check);
        linkByTheNumber(check);
        enteredWithoutTheLowestBit(check);
        onlyTwoValuesReturn(check);
        noReturnWhileTheNumberIsZero(check);
        faultsOffUnlessAlways(check);
        chainedIfDueNow(check);
        chainedThoughTheFrameIsNone(check);
        growsByFourMoreForBitNine(check);
        lowestBitOfPcThatComesBack(check);
        numberThatComesBackAndTheValue(check);
        returnNotAllInMemory(check);
        returnNotDividedByFour(check);
        failedReturnHasLeft(check);
        faultUndoes(check);
        pendingIfEnabledAndBelow(check);
        hardIfTheLevelIsAbove(check);
        haltedIfItIsNot(check);
        check.end();
    }

    /** A core with a loop, and a handler for 10 (priority 4) that is a nothing and BX LR. */
    private static NestedCore looping() {
        NestedCore core = Code.core(Code.branch(-2));
        Code.handler(core, 10, HANDLER, Code.NOTHING, Code.bx(14));
        core.rank(10, 4, true);
        return core;
    }

    private static NestedCore inTen() {
        NestedCore core = looping();
        core.pend(10, true);
        core.run(1);
        return core;
    }

    /** "A STEP: if it is HALTED, nothing." */
    private static void nothingWhileHalted(Check check) {
        NestedCore byFault = Code.core(Code.UNKNOWN);
        byFault.put(17, 1);
        byFault.put(20, 2);
        byFault.run(1);
        NestedCore byFrame = looping();
        byFrame.put(20, 2);
        byFrame.put(13, 8);
        byFrame.pend(10, true);
        byFrame.run(1);
        NestedCore[] both = {byFault, byFrame};
        for (int i = 0; i < both.length; i++) {
            NestedCore core = both[i];
            check.same("HALTED", core.state(6), i + 1);
            core.put(13, 1024);
            core.put(17, 0);
            core.put(15, HANDLER);
            core.pend(2, true);
            List<Integer> before = Look.at(core);
            check.same("run(25) while HALTED", core.run(25), 0);
            Look.unchanged(check, "run(25) while HALTED", core, before);
        }
    }

    /** "If the TICKER is on (RELOAD is not 0)". */
    private static void tickerOffForReloadZero(Check check) {
        NestedCore core = looping();
        core.run(25);
        check.same("COUNTER while off", core.state(8), 0);
        check.same("9 while off", core.state(25), 4);
        core.put(20, 2);
        core.run(1);
        core.put(20, 0);
        core.run(25);
        check.same("COUNTER turned off", core.state(8), 0);
        check.same("9 turned off", core.state(25), 4);
        check.same("taken", core.state(4), 0);
    }

    /** "its COUNTER falls by 1; at 0 it becomes RELOAD, and 9 is pending". */
    private static void counterAtZero(Check check) {
        int[] reloads = {1, 2, 24, 25};
        for (int reload : reloads) {
            NestedCore core = looping();
            core.put(16, 1);
            core.put(20, reload);
            for (int step = 1; step <= 50; step++) {
                core.run(1);
                String what = "RELOAD " + reload + ", step " + step;
                check.same(what + ": COUNTER", core.state(8), reload - step % reload);
                check.same(what + ": 9", core.state(25), step % reload == 0 ? 5 : 4);
                core.pend(9, false);
            }
        }
        NestedCore core = looping();
        core.put(16, 1);
        core.put(20, 255);
        for (int k = 0; k < 10; k++) {
            core.run(25);
        }
        core.run(4);
        check.same("RELOAD 255, step 254", core.state(8), 1);
        check.same("9", core.state(25), 4);
        core.run(1);
        check.same("RELOAD 255, step 255", core.state(8), 255);
        check.same("9", core.state(25), 5);
    }

    /** "Then, if the next exception is due": 9 that became pending in this step, too. */
    private static void tickBeforeWhatIsDue(Check check) {
        NestedCore core = looping();
        core.put(20, 1);
        core.set(36, HANDLER);
        core.run(1);
        check.same("9 is taken in the step that made it pending", core.state(1), 9);
        NestedCore both = looping();
        both.put(20, 1);
        both.rank(9, 5, true);
        both.pend(10, true);
        both.run(1);
        check.same("10 comes first", both.state(1), 10);
        check.same("9 waits", both.state(25), 5);
        NestedCore first = looping();
        first.put(20, 1);
        first.rank(9, 3, true);
        first.pend(10, true);
        first.run(1);
        check.same("9 comes first", first.state(1), 9);
    }

    /** "it is TAKEN, and this was the step". */
    private static void takenIsTheWholeStep(Check check) {
        NestedCore core = Code.core(Code.mov(4, 1));
        Code.handler(core, 10, HANDLER, Code.mov(5, 2));
        core.rank(10, 4, true);
        core.pend(10, true);
        check.same("run(1)", core.run(1), 1);
        check.same("R4", core.register(4), 0);
        check.same("R5", core.register(5), 0);
        check.same("PC", core.register(15), HANDLER);
    }

    /** "SP becomes less 32, and less 4 more if it could not be divided by 8 (ODD then)". */
    private static void lessFourMoreIfOdd(Check check) {
        for (int sp = 800; sp <= 816; sp += 4) {
            NestedCore core = looping();
            core.put(13, sp);
            core.pend(10, true);
            core.run(1);
            boolean odd = sp % 8 != 0;
            check.same("SP from " + sp, core.register(13), sp - (odd ? 36 : 32));
            check.same("STATUS from " + sp, core.word(sp - (odd ? 8 : 4)), odd ? 512 : 0);
        }
    }

    /** Whether 10 is taken with SP there; if not, HALTED is 2 and all is as it was. */
    private static void takesAt(Check check, int sp, boolean due) {
        NestedCore core = looping();
        core.put(13, sp);
        core.put(14, 77);
        core.pend(10, true);
        List<Integer> before = Look.at(core);
        before.set(27, 2);
        core.run(1);
        check.same("HALTED with SP " + sp, core.state(6), due ? 0 : 2);
        check.same("the number with SP " + sp, core.state(1), due ? 10 : 0);
        if (!due) {
            Look.unchanged(check, "but for HALTED, with SP " + sp, core, before);
        }
    }

    /** "if the 32 bytes at SP are not all in memory: HALTED with 2 instead, SP as it was". */
    private static void frameNotAllInMemory(Check check) {
        int[] inside = {32, 36, 40, 1016, 1020, 1024, 1028};
        for (int sp : inside) {
            takesAt(check, sp, true);
        }
        int[] outside = {28, 24, 4, 0, -4, -8, -32, 1032, 1036, 1056, 1060, 2048, MIN, MIN + 4, MIN + 32, MIN + 36, MAX - 3, MAX - 7};
        for (int sp : outside) {
            takesAt(check, sp, false);
        }
    }

    /** "or SP can't be divided by 4". */
    private static void pointerNotDividedByFour(Check check) {
        int[] pointers = {33, 34, 35, 37, 801, 802, 803, 805, 806, 807, 1021, 1023, 1025, 1026};
        for (int sp : pointers) {
            takesAt(check, sp, false);
        }
    }

    /** "(Areas don't count.)" Nor for the word at 4 * e: areas bar what instructions do, and to take is none. */
    private static void areasDoNotCountForFrames(Check check) {
        NestedCore core = looping();
        core.area(0, 0, 1024, 0, true);
        core.area(1, HANDLER, 4, 1, false);
        core.put(0, 9);
        core.pend(10, true);
        core.run(1);
        check.same("taken onto a barred place", core.state(1), 10);
        check.same("R0 in the frame", core.word(992), 9);
        core.run(2);
        check.same("back from a barred place", core.state(1), 0);
        check.same("faults", core.state(7), 0);
    }

    /** "N, Z, C, V in bits 31 .. 28, ODD in bit 9, the NUMBER in bits 3 .. 0", all others 0. */
    private static void statusHasFlagsOddAndNumber(Check check) {
        for (int flags = 0; flags <= 15; flags++) {
            NestedCore core = Code.flagged(flags, Code.NOTHING);
            core.rank(10, 7, true);
            core.rank(15, 5, true);
            core.put(13, 1020);
            core.pend(15, true);
            core.run(1);
            check.same("STATUS at the base", core.word(984 + 28), flags << 28 | 512);
            core.pend(3, true);
            core.run(1);
            check.same("STATUS in 15", core.word(952 + 28), flags << 28 | 15);
            core.pend(2, true);
            core.run(1);
            check.same("STATUS in HARD", core.word(920 + 28), flags << 28 | 3);
        }
    }

    /** "LR becomes -7 if the number was 0, otherwise -15." */
    private static void linkByTheNumber(Check check) {
        NestedCore core = inTen();
        check.same("LR from the base", core.register(14), -7);
        core.pend(3, true);
        core.run(1);
        check.same("LR from 10", core.register(14), -15);
        core.pend(2, true);
        core.run(1);
        check.same("LR from HARD", core.register(14), -15);
    }

    /** "PC becomes the word at 4 * e without its lowest bit": wherever that is. */
    private static void enteredWithoutTheLowestBit(Check check) {
        int[] words = {0, 1, 1023, 1024, 1025, -1, -7, -15, MIN + 1, MAX};
        for (int word : words) {
            NestedCore core = looping();
            core.set(40, word);
            core.pend(10, true);
            core.run(1);
            check.same("PC by " + word, core.register(15), word & ~1);
            check.same("the number by " + word, core.state(1), 10);
            check.same("faults by " + word, core.state(7), 0);
        }
    }

    /** "a value -7 or -15": no other one, and no other instruction than BX and POP. */
    private static void onlyTwoValuesReturn(Check check) {
        for (int value = -20; value <= 1; value++) {
            NestedCore core = inTen();
            core.put(15, HANDLER + 2);
            core.put(14, value);
            core.set(1020, value == -15 ? 12 : 0);
            core.run(1);
            boolean due = value == -7 || value == -15;
            check.same("10 after BX of " + value, core.state(26), due ? 4 : 6);
            check.same("PC after BX of " + value, core.register(15), due ? Code.START : value & ~1);
            NestedCore pop = inTen();
            Code.write(pop, HANDLER, Code.pop(0x100));
            pop.put(13, 988);
            pop.set(988, value);
            pop.set(1020, value == -15 ? 12 : 0);
            pop.run(1);
            check.same("10 after POP of " + value, pop.state(26), due ? 4 : 6);
            check.same("PC after POP of " + value, pop.register(15), due ? Code.START : value & ~1);
            check.same("SP after POP of " + value, pop.register(13), due ? 1024 : 992);
        }
        NestedCore branch = Code.core();
        Code.handler(branch, 10, 0, 0);
        branch.set(0, Code.branch(-6));
        branch.rank(10, 4, true);
        branch.pend(10, true);
        branch.run(2);
        check.same("a branch to -8", branch.register(15), -8);
        check.same("is no return", branch.state(26), 6);
        NestedCore put = inTen();
        put.put(15, -7);
        check.same("put(15, -7) is no return", put.state(26), 6);
    }

    /** "while the number is not 0". */
    private static void noReturnWhileTheNumberIsZero(Check check) {
        int[] values = {-7, -15};
        for (int value : values) {
            NestedCore core = Code.core(Code.bx(14));
            core.put(14, value);
            core.put(17, 1);
            core.run(1);
            check.same("PC after BX of " + value, core.register(15), value - 1);
            check.same("FAULTS stays", core.register(17), 1);
            check.same("faults", core.state(7), 0);
            NestedCore pop = Code.core(Code.pop(0x100));
            pop.put(13, 1020);
            pop.set(1020, value);
            pop.run(1);
            check.same("PC after POP of " + value, pop.register(15), value - 1);
            check.same("SP after POP of " + value, pop.register(13), 1024);
        }
    }

    /** "FAULTS goes off (unless it was 2)": MASK and FLOOR stay. */
    private static void faultsOffUnlessAlways(Check check) {
        for (int e = 2; e <= 15; e++) {
            NestedCore core = Code.core();
            Code.handler(core, e, HANDLER, Code.bx(14));
            if (e > 3) {
                core.rank(e, 1, true);
            }
            core.pend(e, true);
            core.run(1);
            core.put(16, 1);
            core.put(17, 1);
            core.put(18, 5);
            core.run(1);
            check.same("the number after " + e, core.state(1), 0);
            check.same("FAULTS after " + e, core.register(17), e == 2 ? 1 : 0);
            check.same("MASK after " + e, core.register(16), 1);
            check.same("FLOOR after " + e, core.register(18), 5);
        }
    }

    /** "if the next exception is due now, it is ENTERED at once": it is looked at after 10 was left. */
    private static void chainedIfDueNow(Check check) {
        for (int floor = 0; floor <= 7; floor++) {
            NestedCore core = inTen();
            core.rank(11, 4, true);
            core.set(44, 701);
            core.run(1);
            core.pend(11, true);
            core.put(17, 1);
            core.put(18, floor);
            core.run(1);
            boolean due = floor == 0 || floor > 4;
            check.same("the number under FLOOR " + floor, core.state(1), due ? 11 : 0);
            check.same("chained under FLOOR " + floor, core.state(5), due ? 1 : 0);
            check.same("taken under FLOOR " + floor, core.state(4), 1);
            check.same("PC under FLOOR " + floor, core.register(15), due ? 700 : Code.START);
            check.same("SP under FLOOR " + floor, core.register(13), due ? 992 : 1024);
        }
        NestedCore self = inTen();
        self.pend(10, true);
        self.run(2);
        check.same("10 chained to itself", self.state(5), 1);
        check.same("10 is active, not pending", self.state(26), 6);
        NestedCore tick = inTen();
        tick.put(20, 2);
        tick.rank(9, 5, true);
        tick.set(36, 700);
        tick.run(2);
        check.same("9 that became pending in the step of the return", tick.state(1), 9);
        check.same("is chained", tick.state(5), 1);
    }

    /** "frame and LR are as before, LR being that value": the frame is not looked at. */
    private static void chainedThoughTheFrameIsNone(Check check) {
        int[] pointers = {1000, 1024, -4, 2, 991, MIN, MAX};
        for (int sp : pointers) {
            NestedCore core = inTen();
            core.rank(11, 6, true);
            core.set(44, 700);
            core.run(1);
            core.pend(11, true);
            core.put(13, sp);
            core.put(14, -15);
            core.run(1);
            check.same("the number with SP " + sp, core.state(1), 11);
            check.same("SP", core.register(13), sp);
            check.same("LR", core.register(14), -15);
            check.same("HALTED", core.state(6), 0);
            check.same("faults", core.state(7), 0);
        }
    }

    /** "SP grows by 32, and by 4 more if bit 9 is 1": no other bit counts. */
    private static void growsByFourMoreForBitNine(Check check) {
        for (int bit = 4; bit <= 31; bit++) {
            NestedCore core = inTen();
            core.set(1020, 1 << bit);
            core.run(2);
            check.same("SP by bit " + bit, core.register(13), bit == 9 ? 1028 : 1024);
            check.same("the number by bit " + bit, core.state(1), 0);
            check.same("flags by bit " + bit, core.state(0), bit < 28 ? 0 : 1 << bit - 28);
        }
    }

    /** "PC (without its lowest bit)": wherever that is; -7 in the frame is no return of its own. */
    private static void lowestBitOfPcThatComesBack(Check check) {
        int[] words = {0, 1, 1025, -1, -7, -15, MAX};
        for (int word : words) {
            NestedCore core = inTen();
            core.set(992 + 24, word);
            core.set(992 + 20, word);
            core.run(2);
            check.same("PC by " + word, core.register(15), word & ~1);
            check.same("LR by " + word, core.register(14), word);
            check.same("the number by " + word, core.state(1), 0);
            check.same("faults by " + word, core.state(7), 0);
        }
    }

    /** A return of a value from 10 to a status: 0 if it comes back, 1 if it is a fault. */
    private static int fails(int value, int status, int sp) {
        NestedCore core = inTen();
        core.run(1);
        core.set(1020, status);
        core.put(14, value);
        core.put(13, sp);
        core.run(1);
        return core.state(7);
    }

    /** "If the value is -7 and the number that comes back is not 0, or -15 and it is 0, or it is 1". */
    private static void numberThatComesBackAndTheValue(Check check) {
        for (int number = 0; number <= 15; number++) {
            check.same("-7 to " + number, fails(-7, number, 992), number == 0 ? 0 : 1);
            check.same("-15 to " + number, fails(-15, number, 992), number > 1 ? 0 : 1);
            check.same("-7 to " + number + " and 16", fails(-7, 16 + number, 992), number == 0 ? 0 : 1);
            check.same("-15 to " + number + " and 16", fails(-15, 16 + number, 992), number > 1 ? 0 : 1);
        }
    }

    /** "or the 32 bytes at SP are not all in memory". */
    private static void returnNotAllInMemory(Check check) {
        int[] inside = {0, 4, 960, 988, 992};
        for (int sp : inside) {
            check.same("a return with SP " + sp, fails(-7, 0, sp), 0);
        }
        int[] outside = {-4, -32, 996, 1000, 1020, 1024, 1028, 2016, MIN, MIN + 992, MAX - 3, MAX - 31};
        for (int sp : outside) {
            check.same("a return with SP " + sp, fails(-7, 0, sp), 1);
        }
    }

    /** "or SP can't be divided by 4". */
    private static void returnNotDividedByFour(Check check) {
        int[] pointers = {1, 2, 3, 961, 962, 963, 989, 990, 991, 993};
        for (int sp : pointers) {
            check.same("a return with SP " + sp, fails(-7, 0, sp), 1);
        }
    }

    /** "a FAULT as for USAGE instead of coming back (but the exception is active no more, and FAULTS off)". */
    private static void failedReturnHasLeft(Check check) {
        NestedCore core = inTen();
        core.rank(6, 4, true);
        core.run(1);
        core.put(17, 1);
        core.put(13, 1000);
        List<Integer> before = Look.at(core);
        core.run(1);
        // 10 active no more, 6 pending and due; FAULTS off, so the level is 8; one fault.
        before.set(17, 0);
        before.set(21 + 2, 8);
        before.set(21 + 3, 6);
        before.set(21 + 7, 1);
        before.set(30 + 4, 5);
        before.set(30 + 8, 4);
        Look.unchanged(check, "but for what is told", core, before);
    }

    /** "undoes the instruction, PC stays at it". */
    private static void faultUndoes(Check check) {
        int[] halves = {
            Code.UNKNOWN, Code.pop(0x1FF), Code.push(0x1FF), Code.load(0, 1, 0), Code.store(0, 1, 0), Code.loadSp(0, 255),
            Code.copy(15, 3), Code.bx(15), Code.push(0), Code.pop(0),
        };
        for (int half : halves) {
            NestedCore core = Code.flagged(11, half);
            for (int r = 0; r <= 14; r++) {
                core.put(r, 1000 + r);
            }
            core.put(13, 1028 - 4 * (half == Code.push(0x1FF) ? 250 : 1));
            List<Integer> before = Look.at(core);
            core.run(1);
            before.set(21 + 3, 3);
            before.set(21 + 7, 1);
            before.set(30 + 1, 5);
            Look.unchanged(check, "but for HARD, by " + Integer.toHexString(half), core, before);
        }
    }

    /** What a fault of USAGE makes pending: 6, 3, or 0 if HALTED. */
    private static int becomes(boolean enabled, int priority, int floor, int split) {
        NestedCore core = Code.core(Code.UNKNOWN);
        core.rank(6, priority, enabled);
        core.put(18, floor);
        core.put(19, split);
        core.run(1);
        return core.state(22) % 2 == 1 ? 6 : core.state(19) % 2 == 1 ? 3 : 0;
    }

    /** "whether the exception is enabled, and its group below the level: then it is pending". */
    private static void pendingIfEnabledAndBelow(Check check) {
        for (int priority = 0; priority <= 7; priority++) {
            for (int floor = 0; floor <= 7; floor++) {
                for (int split = 0; split <= 3; split++) {
                    int level = floor == 0 ? 8 : floor >> split;
                    String what = "priority " + priority + ", FLOOR " + floor + ", split " + split;
                    check.same(what, becomes(true, priority, floor, split), priority >> split < level ? 6 : 3);
                    check.same(what + ", not enabled", becomes(false, priority, floor, split), 3);
                }
            }
        }
    }

    /** "3 is pending if the level is above -1". */
    private static void hardIfTheLevelIsAbove(Check check) {
        NestedCore masked = Code.core(Code.UNKNOWN);
        masked.rank(6, 0, true);
        masked.put(16, 1);
        masked.run(1);
        check.same("HARD at the level 0", masked.state(19), 5);
        check.same("not HALTED", masked.state(6), 0);
        NestedCore again = Code.core(Code.UNKNOWN);
        again.rank(6, 0, true);
        again.set(24, HANDLER);
        again.set(HANDLER, Code.UNKNOWN);
        again.run(3);
        check.same("HARD by a fault in USAGE itself", again.state(19), 5);
        check.same("faults", again.state(7), 2);
        check.same("PC at it", again.register(15), HANDLER);
    }

    /** "otherwise HALTED with 1". */
    private static void haltedIfItIsNot(Check check) {
        for (int e = 2; e <= 3; e++) {
            NestedCore core = Code.core();
            core.rank(6, 0, true);
            Code.handler(core, e, HANDLER, Code.UNKNOWN);
            core.pend(e, true);
            check.same("run(25) in " + e, core.run(25), 2);
            check.same("HALTED in " + e, core.state(6), 1);
            check.same("6 is not pending", core.state(22), 4);
            check.same("3 is not pending", core.state(19), e == 3 ? 6 : 4);
            check.same("faults", core.state(7), 1);
            check.same("PC at it", core.register(15), HANDLER);
        }
        NestedCore faults = Code.core(Code.FAULTS_ON, Code.UNKNOWN);
        check.same("run(25) under FAULTS", faults.run(25), 2);
        check.same("HALTED under FAULTS", faults.state(6), 1);
    }
}
