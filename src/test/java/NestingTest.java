/** Promise 9: what is taken, the frame, returns, chains, and the ticker. */
public final class NestingTest {
    private static final int[] FRAME = {0, 1, 2, 3, 12, 14, 15};

    public static void main(String[] args) {
        Check check = new Check();
        theFrame(check);
        noRoomForTheFrame(check);
        theFrameComesBack(check);
        nested(check);
        chained(check);
        chainedByPop(check);
        returnByPop(check);
        faultsGoOff(check);
        otherValuesAreNoReturns(check);
        theNumberThatComesBack(check);
        everyExceptionHasItsWord(check);
        calls(check);
        theTicker(check);
        check.end();
    }

    /** A core with three lines of priorities 4, 2, 6, each with a handler that counts in R5, R6, R7. */
    private static NestedCore lines() {
        NestedCore core = Code.core(Code.NOTHING, Code.NOTHING, Code.NOTHING, Code.NOTHING);
        int[] priorities = {4, 2, 6};
        for (int i = 0; i < 3; i++) {
            Code.handler(core, 10 + i, 512 + 16 * i, Code.number(2, 5 + i, 1), Code.bx(14));
            core.rank(10 + i, priorities[i], true);
        }
        return core;
    }

    private static void theFrame(Check check) {
        int[][] rows = {{1024, 992, 0}, {1020, 984, 512}, {1016, 984, 0}, {32, 0, 0}, {36, 0, 512}, {1028, 992, 512}};
        for (int[] row : rows) {
            NestedCore core = Code.flagged(13, Code.NOTHING);
            for (int r = 0; r <= 14; r++) {
                core.put(r, 1000 + r);
            }
            core.put(13, row[0]);
            core.set(40, 703);
            core.pend(10, true);
            check.same("run(1)", core.run(1), 1);
            check.same("SP from " + row[0], core.register(13), row[1]);
            for (int i = 0; i < FRAME.length; i++) {
                int due = FRAME[i] == 15 ? Code.START : 1000 + FRAME[i];
                check.same("frame word " + i + " from " + row[0], core.word(row[1] + 4 * i), due);
            }
            check.same("STATUS from " + row[0], core.word(row[1] + 28), 13 << 28 | row[2]);
            check.same("LR", core.register(14), -7);
            check.same("PC without its lowest bit", core.register(15), 702);
            check.same("the number", core.state(1), 10);
            check.same("10 is active and not pending", core.state(26), 6);
            check.same("taken", core.state(4), 2);
            check.same("flags stay", core.state(0), 13);
        }
    }

    private static void noRoomForTheFrame(Check check) {
        int[] pointers = {28, 0, -4, 1032, 1064, 1022, 1023, 1025, 33, 34, Integer.MIN_VALUE, Integer.MIN_VALUE + 4, Integer.MAX_VALUE};
        for (int sp : pointers) {
            NestedCore core = lines();
            core.put(13, sp);
            core.put(14, 5);
            core.put(20, 200);
            core.pend(10, true);
            int first = core.word(0);
            int last = core.word(1020);
            check.same("the step that halts at " + sp, core.run(3), 1);
            check.same("HALTED at " + sp, core.state(6), 2);
            check.same("SP as it was", core.register(13), sp);
            check.same("LR as it was", core.register(14), 5);
            check.same("PC as it was", core.register(15), Code.START);
            check.same("10 is still pending", core.state(26), 5);
            check.same("none taken", core.state(4), 0);
            check.same("the number", core.state(1), 0);
            check.same("no fault", core.state(7), 0);
            check.same("the counter fell", core.state(8), 199);
            check.same("the first word", core.word(0), first);
            check.same("the last word", core.word(1020), last);
            check.same("no step while HALTED", core.run(25), 0);
            check.same("the counter stays", core.state(8), 199);
        }
    }

    private static void theFrameComesBack(Check check) {
        NestedCore core = lines();
        core.put(13, 1020);
        core.pend(10, true);
        core.run(1);
        int[] words = {1, 2, 3, 4, 5, 6, 301, 0xA0000200};
        for (int i = 0; i < 8; i++) {
            core.set(984 + 4 * i, words[i]);
        }
        core.put(15, 514);
        core.put(4, 44);
        core.run(1);
        for (int i = 0; i < 6; i++) {
            check.same("R" + FRAME[i] + " came back", core.register(FRAME[i]), words[i]);
        }
        check.same("PC came back without its lowest bit", core.register(15), 300);
        check.same("SP came back by 36", core.register(13), 1020);
        check.same("flags came back", core.state(0), 10);
        check.same("the number came back", core.state(1), 0);
        check.same("10 is active no more", core.state(26), 4);
        check.same("R4 is not in the frame", core.register(4), 44);
        check.same("the level", core.state(2), 8);
        check.same("no chain", core.state(5), 0);
    }

    private static void nested(Check check) {
        NestedCore core = lines();
        core.pend(10, true);
        core.run(2);
        core.pend(12, true);
        core.run(1);
        check.same("12 waits; 10 has returned into it", core.state(1), 12);
        core.pend(11, true);
        core.run(1);
        check.same("11 nests", core.state(1), 11);
        check.same("LR of a nested one", core.register(14), -15);
        check.same("the number in its status", core.word(core.register(13) + 28) & 15, 12);
        check.same("SP by two frames", core.register(13), 960);
        check.same("the level", core.state(2), 2);
        core.pend(10, true);
        check.same("10 is not due under 11", core.state(3), 0);
        core.run(2);
        check.same("10 chained before 12 goes on", core.state(1), 10);
        check.same("LR as it was", core.register(14), -15);
        check.same("SP as it was", core.register(13), 960);
        core.run(2);
        check.same("12 goes on", core.state(1), 12);
        check.same("LR came back", core.register(14), -7);
        core.run(2);
        check.same("the base goes on", core.state(1), 0);
        check.same("SP at the end", core.register(13), 1024);
        check.same("PC at the end", core.register(15), Code.START);
        check.same("taken", core.state(4), 2);
        check.same("chained", core.state(5), 2);
        check.same("R5", core.register(5), 2);
        check.same("R6", core.register(6), 1);
        check.same("R7", core.register(7), 1);
    }

    private static void chained(Check check) {
        NestedCore core = lines();
        Code.write(core, 512, Code.copy(4, 14), Code.bx(4));
        core.pend(10, true);
        core.pend(12, true);
        core.run(2);
        core.put(14, 123);
        core.put(0, 9);
        core.run(1);
        check.same("12 is entered", core.state(1), 12);
        check.same("LR is the value", core.register(14), -7);
        check.same("12 is active, not pending", core.state(28), 6);
        check.same("10 is active no more", core.state(26), 4);
        check.same("R0 as it was", core.register(0), 9);
        check.same("SP as it was", core.register(13), 992);
        check.same("PC", core.register(15), 544);
        check.same("taken", core.state(4), 1);
        check.same("chained", core.state(5), 1);
        core.run(2);
        check.same("the base's R0 came back", core.register(0), 0);
        check.same("the number", core.state(1), 0);
    }

    private static void chainedByPop(Check check) {
        NestedCore core = lines();
        Code.write(core, 512, Code.push(0x110), Code.mov(4, 1), Code.pop(0x110));
        core.put(4, 40);
        core.put(13, 1000);
        core.pend(10, true);
        core.pend(12, true);
        core.run(3);
        core.put(14, 5);
        core.run(1);
        check.same("12 is entered", core.state(1), 12);
        check.same("SP after it has grown", core.register(13), 968);
        check.same("R4 came back", core.register(4), 40);
        check.same("LR is the value", core.register(14), -7);
        check.same("chained", core.state(5), 1);
    }

    private static void returnByPop(Check check) {
        NestedCore core = lines();
        Code.write(core, 512, Code.push(0x101), Code.mov(0, 1), Code.pop(0x110));
        core.put(0, 40);
        core.pend(10, true);
        core.run(4);
        check.same("the number", core.state(1), 0);
        check.same("SP", core.register(13), 1024);
        check.same("R4 came by POP", core.register(4), 40);
        check.same("R0 came by the frame", core.register(0), 40);
        check.same("PC", core.register(15), Code.START);
        check.same("LR", core.register(14), 0);
    }

    private static void faultsGoOff(Check check) {
        int[] exceptions = {2, 3, 10};
        for (int e : exceptions) {
            NestedCore core = lines();
            Code.handler(core, e, 512, Code.NOTHING, Code.bx(14));
            core.pend(e, true);
            core.run(2);
            core.put(17, 1);
            core.put(16, 1);
            core.run(1);
            check.same("the number after " + e, core.state(1), 0);
            check.same("FAULTS after " + e, core.register(17), e == 2 ? 1 : 0);
            check.same("MASK after " + e, core.register(16), 1);
        }
        NestedCore core = lines();
        core.pend(10, true);
        core.run(2);
        core.put(17, 1);
        core.pend(12, true);
        core.run(1);
        check.same("FAULTS is off before it is looked at what is due", core.state(1), 12);
    }

    private static void otherValuesAreNoReturns(Check check) {
        int[] values = {-8, -6, -16, -14, -3, -1, -23, 7, 15};
        for (int value : values) {
            NestedCore core = lines();
            core.pend(10, true);
            core.run(2);
            core.put(14, value);
            core.run(1);
            check.same("the number after BX of " + value, core.state(1), 10);
            check.same("PC after BX of " + value, core.register(15), value & ~1);
        }
    }

    /** A return of a value from 10, with a number in the status: does it come back? */
    private static void comesBack(Check check, int value, int number, boolean due) {
        NestedCore core = lines();
        core.rank(6, 0, true);
        core.pend(10, true);
        core.run(2);
        core.set(1020, number);
        core.put(14, value);
        core.put(17, 1);
        core.run(1);
        String what = "a return of " + value + " to " + number;
        check.same(what + ": the number", core.state(1), due ? number : 10);
        check.same(what + ": USAGE", core.state(22), due ? 4 : 5);
        check.same(what + ": SP", core.register(13), due ? 1024 : 992);
        check.same(what + ": PC", core.register(15), due ? Code.START : 514);
        check.same(what + ": LR", core.register(14), due ? 0 : value);
        check.same(what + ": 10 is active no more", core.state(26), 4);
        check.same(what + ": FAULTS is off", core.register(17), 0);
        check.same(what + ": faults", core.state(7), due ? 0 : 1);
    }

    private static void theNumberThatComesBack(Check check) {
        for (int number = 0; number <= 15; number++) {
            comesBack(check, -7, number, number == 0);
            comesBack(check, -15, number, number > 1);
        }
    }

    private static void everyExceptionHasItsWord(Check check) {
        for (int e = 2; e <= 15; e++) {
            NestedCore core = Code.core();
            core.set(4 * e, 301 + 2 * e);
            if (e > 3) {
                core.rank(e, e & 7, true);
            }
            core.pend(e, true);
            core.run(1);
            check.same("PC of " + e, core.register(15), 300 + 2 * e);
            check.same("the number of " + e, core.state(1), e);
            check.same("the level of " + e, core.state(2), e == 2 ? -2 : e == 3 ? -1 : e & 7);
        }
    }

    private static void calls(Check check) {
        for (int low = 0; low <= 255; low += 51) {
            NestedCore core = Code.core(Code.CALL + low, Code.NOTHING);
            Code.handler(core, 7, 512, Code.bx(14));
            core.rank(7, 5, false);
            core.put(18, 6);
            core.run(1);
            check.same("7 is pending", core.state(23), 5);
            check.same("PC is behind", core.register(15), Code.START + 2);
            core.run(1);
            check.same("7 is taken", core.state(1), 7);
            core.run(1);
            check.same("back behind the call", core.register(15), Code.START + 2);
            check.same("faults", core.state(7), 0);
        }
        NestedCore barred = Code.core(Code.CALL);
        barred.rank(7, 5, true);
        barred.rank(6, 1, true);
        barred.put(18, 5);
        barred.run(1);
        check.same("7 is not pending", barred.state(23), 4);
        check.same("USAGE is", barred.state(22), 5);
        check.same("PC stays", barred.register(15), Code.START);
        check.same("a fault", barred.state(7), 1);
    }

    private static void theTicker(Check check) {
        NestedCore core = Code.core(Code.branch(-2));
        Code.handler(core, 9, 512, Code.bx(14));
        core.put(20, 3);
        core.run(2);
        check.same("COUNTER", core.state(8), 1);
        check.same("9 is not pending", core.state(25), 4);
        core.run(1);
        check.same("COUNTER anew", core.state(8), 3);
        check.same("9 is taken in the same step", core.state(1), 9);
        core.run(1);
        check.same("the return is a step that counts", core.state(8), 2);
        core.put(16, 1);
        core.run(2);
        check.same("9 is pending under MASK", core.state(25), 5);
        core.run(3);
        check.same("and stays so", core.state(25), 5);
        check.same("taken", core.state(4), 1);
        NestedCore every = Code.core(Code.branch(-2));
        every.put(20, 1);
        every.put(16, 1);
        every.run(1);
        check.same("RELOAD 1: COUNTER", every.state(8), 1);
        check.same("RELOAD 1: 9 is pending", every.state(25), 5);
    }
}
