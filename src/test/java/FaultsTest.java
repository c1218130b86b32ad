/** Promise 9: faults, what they become, and what they undo. */
public final class FaultsTest {
    private static final int AREA = 4;
    private static final int BUS = 5;
    private static final int USAGE = 6;

    public static void main(String[] args) {
        Check check = new Check();
        eachHasItsException(check);
        enabledAndBelowOrHarder(check);
        haltedByFault(check);
        placesThatAreNone(check);
        fetchOutside(check);
        busBeforeArea(check);
        undone(check);
        returnsThatFail(check);
        levelAfterTheReturn(check);
        check.end();
    }

    private static NestedCore faulty(int half) {
        NestedCore core = Code.core(half);
        core.put(0, 800);
        core.put(1, 802);
        core.area(0, 800, 4, 0, false);
        return core;
    }

    private static int halfFor(int fault) {
        return fault == AREA ? Code.load(2, 0, 0) : fault == BUS ? Code.load(2, 1, 0) : Code.UNKNOWN;
    }

    private static void eachHasItsException(Check check) {
        for (int fault = AREA; fault <= USAGE; fault++) {
            NestedCore core = faulty(halfFor(fault));
            for (int e = AREA; e <= USAGE; e++) {
                core.rank(e, e, true);
                core.set(4 * e, 600);
            }
            core.run(1);
            for (int e = AREA; e <= USAGE; e++) {
                check.same("exception " + e + " after fault " + fault, core.state(16 + e), e == fault ? 5 : 4);
            }
            check.same("HARD after fault " + fault, core.state(19), 4);
            check.same("PC after fault " + fault, core.register(15), Code.START);
            check.same("faults", core.state(7), 1);
            check.same("due", core.state(3), fault);
            core.run(1);
            check.same("the number", core.state(1), fault);
            check.same("PC in the frame", core.word(1016), Code.START);
        }
    }

    private static void becomes(Check check, String what, NestedCore core, int fault, int due) {
        core.run(1);
        check.same(what + ": the exception itself", core.state(16 + fault) & 1, due == fault ? 1 : 0);
        check.same(what + ": HARD", core.state(19) & 1, due == 3 ? 1 : 0);
        check.same(what + ": HALTED", core.state(6), due == 0 ? 1 : 0);
        check.same(what + ": faults", core.state(7), 1);
        check.same(what + ": PC", core.register(15), Code.START);
    }

    private static NestedCore ranked(int fault, int priority, boolean enabled, int floor) {
        NestedCore core = faulty(halfFor(fault));
        core.rank(fault, priority, enabled);
        core.put(18, floor);
        return core;
    }

    private static void enabledAndBelowOrHarder(Check check) {
        for (int fault = AREA; fault <= USAGE; fault++) {
            becomes(check, "not enabled", ranked(fault, 0, false, 0), fault, 3);
            becomes(check, "enabled", ranked(fault, 7, true, 0), fault, fault);
            becomes(check, "at the floor", ranked(fault, 3, true, 3), fault, 3);
            becomes(check, "below the floor", ranked(fault, 2, true, 3), fault, fault);
            NestedCore split = ranked(fault, 2, true, 3);
            split.put(19, 1);
            becomes(check, "of the floor's group", split, fault, 3);
            NestedCore masked = ranked(fault, 0, true, 0);
            masked.put(16, 1);
            becomes(check, "under MASK", masked, fault, 3);
            NestedCore faults = ranked(fault, 0, true, 0);
            faults.put(17, 1);
            becomes(check, "under FAULTS", faults, fault, 0);
        }
    }

    private static void haltedByFault(Check check) {
        NestedCore core = Code.core(Code.UNKNOWN);
        Code.handler(core, 3, 512, Code.NOTHING, Code.UNKNOWN);
        core.put(20, 9);
        check.same("steps until HALTED", core.run(25), 4);
        check.same("HALTED", core.state(6), 1);
        check.same("the number", core.state(1), 3);
        check.same("faults", core.state(7), 2);
        check.same("PC at the fault", core.register(15), 514);
        check.same("COUNTER", core.state(8), 5);
        check.same("no more steps", core.run(1), 0);
        core.pend(2, true);
        core.put(15, 512);
        check.same("HALTED stays", core.run(25), 0);
        check.same("ALWAYS is due but not taken", core.state(3), 2);
        check.same("COUNTER stays", core.state(8), 5);
        NestedCore always = Code.core();
        Code.handler(always, 2, 512, Code.UNKNOWN);
        always.rank(USAGE, 0, true);
        always.pend(2, true);
        check.same("steps until HALTED in ALWAYS", always.run(25), 2);
        check.same("HALTED in ALWAYS", always.state(6), 1);
    }

    private static void fails(Check check, String what, NestedCore core, int fault) {
        core.rank(AREA, 0, true);
        core.rank(BUS, 0, true);
        core.rank(USAGE, 0, true);
        int sp = core.register(13);
        core.run(1);
        for (int e = AREA; e <= USAGE; e++) {
            check.same(what + ": exception " + e, core.state(16 + e), e == fault ? 5 : 4);
        }
        if (fault != 0) {
            check.same(what + ": SP", core.register(13), sp);
            check.same(what + ": PC", core.register(15), Code.START);
        }
    }

    private static void atPlace(Check check, int address, boolean bus) {
        int[] halves = {Code.store(2, 1, 0), Code.load(2, 1, 0), Code.storeSp(2, 0), Code.loadSp(2, 0), Code.pop(4)};
        for (int half : halves) {
            NestedCore core = Code.core(half);
            core.put(1, address);
            core.put(13, address);
            fails(check, Integer.toHexString(half) + " at " + address, core, bus ? BUS : 0);
        }
        NestedCore core = Code.core(Code.push(4));
        core.put(13, address + 4);
        fails(check, "push to " + address, core, bus ? BUS : 0);
    }

    private static void placesThatAreNone(Check check) {
        int[] none = {-4, -1, 1, 2, 3, 1021, 1022, 1023, 1024, 1028, Integer.MIN_VALUE, Integer.MAX_VALUE, 0x40000000};
        for (int address : none) {
            atPlace(check, address, true);
        }
        int[] words = {0, 4, 800, 1020};
        for (int address : words) {
            atPlace(check, address, false);
        }
        int[][] spans = {{-8, 1}, {-4, 1}, {0, 0}, {1012, 0}, {1016, 1}, {1020, 1}, {1014, 1}};
        for (int[] span : spans) {
            NestedCore pop = Code.core(Code.pop(7));
            pop.put(13, span[0]);
            fails(check, "three from " + span[0], pop, span[1] == 0 ? 0 : BUS);
            NestedCore push = Code.core(Code.push(7));
            push.put(13, span[0] + 12);
            fails(check, "three to " + span[0], push, span[1] == 0 ? 0 : BUS);
        }
    }

    private static void fetchOutside(Check check) {
        int[] none = {1024, 1026, -2, -4, Integer.MIN_VALUE, Integer.MAX_VALUE - 1};
        for (int pc : none) {
            NestedCore core = Code.core();
            core.rank(BUS, 0, true);
            core.put(15, pc);
            core.run(1);
            check.same("BUS at " + pc, core.state(21), 5);
            check.same("PC at " + pc, core.register(15), pc);
        }
        NestedCore core = Code.core();
        core.rank(BUS, 0, true);
        core.set(1020, Code.mov(0, 4) << 16);
        core.put(15, 1022);
        core.run(1);
        check.same("the last half", core.register(0), 4);
        check.same("PC behind memory", core.register(15), 1024);
        core.run(1);
        check.same("BUS behind memory", core.state(21), 5);
        NestedCore first = Code.core();
        first.set(0, Code.mov(0, 4));
        first.put(15, 0);
        first.run(1);
        check.same("the first half", first.register(0), 4);
    }

    private static void busBeforeArea(Check check) {
        NestedCore one = Code.core(Code.load(2, 1, 0));
        one.area(0, 800, 8, 0, false);
        one.put(1, 802);
        fails(check, "a barred place not divided by 4", one, BUS);
        NestedCore pop = Code.core(Code.pop(7));
        pop.area(0, 1016, 4, 0, false);
        pop.put(13, 1016);
        fails(check, "the first barred, the third outside", pop, BUS);
        NestedCore push = Code.core(Code.push(7));
        push.area(0, 0, 8, 1, false);
        push.put(13, 8);
        fails(check, "the first outside, the others barred", push, BUS);
        NestedCore inside = Code.core(Code.push(7));
        inside.area(0, 1012, 12, 1, false);
        fails(check, "all inside and barred", inside, AREA);
    }

    private static void undone(Check check) {
        NestedCore core = Code.core(Code.pop(0x1FF));
        core.rank(BUS, 1, true);
        core.put(13, 992);
        for (int r = 0; r <= 7; r++) {
            core.put(r, r);
            core.set(992 + 4 * r, 100 + r);
        }
        core.run(1);
        for (int r = 0; r <= 7; r++) {
            check.same("R" + r + " after a fault", core.register(r), r);
        }
        check.same("SP after a fault", core.register(13), 992);
        check.same("PC after a fault", core.register(15), Code.START);
        NestedCore push = Code.core(Code.push(0xFF));
        push.rank(BUS, 1, true);
        push.put(13, 28);
        push.put(7, 7);
        push.run(1);
        for (int address = 0; address < 32; address += 4) {
            check.same("word " + address + " after a fault", push.word(address), 0);
        }
        NestedCore flags = Code.flagged(9, Code.UNKNOWN);
        flags.rank(USAGE, 1, true);
        flags.run(1);
        check.same("flags after a fault", flags.state(0), 9);
    }

    /** A core in exception 10 that is about to return by a POP of R0 and PC. */
    private static NestedCore returning(int value) {
        NestedCore core = Code.core();
        Code.handler(core, 10, 512, Code.pop(0x101));
        core.rank(10, 3, true);
        core.rank(USAGE, 1, true);
        core.pend(10, true);
        core.run(1);
        core.put(13, 984);
        core.set(984, 55);
        core.set(988, value);
        return core;
    }

    private static void returnsThatFail(Check check) {
        int[] pointers = {988, 992, 1012, 1016};
        for (int sp : pointers) {
            NestedCore core = returning(-7);
            core.put(13, sp);
            core.put(0, 5);
            core.put(14, 14);
            core.set(sp + 4, -7);
            core.run(1);
            check.same("USAGE with SP " + sp, core.state(22), 5);
            check.same("10 is active no more", core.state(26), 4);
            check.same("SP is undone", core.register(13), sp);
            check.same("R0 is undone", core.register(0), 5);
            check.same("LR is as it was", core.register(14), 14);
            check.same("PC stays", core.register(15), 512);
            check.same("the number stays", core.state(1), 10);
            check.same("chained", core.state(5), 0);
            core.put(13, 904);
            core.run(1);
            check.same("USAGE is taken", core.state(1), 6);
            check.same("as one that nests", core.register(14), -15);
            check.same("the number in its status", core.word(872 + 28), 10);
        }
        int[] crooked = {990, 991, 1, -32, 1000, Integer.MIN_VALUE, Integer.MAX_VALUE};
        for (int sp : crooked) {
            NestedCore core = returning(-7);
            Code.write(core, 512, Code.bx(14));
            core.put(14, -7);
            core.put(13, sp);
            core.run(1);
            check.same("USAGE by BX with SP " + sp, core.state(22), 5);
            check.same("SP", core.register(13), sp);
        }
        NestedCore core = returning(-7);
        core.run(1);
        check.same("the same with SP 984", core.state(1), 0);
        check.same("R0 by the frame", core.register(0), 0);
        check.same("no fault", core.state(7), 0);
    }

    private static void levelAfterTheReturn(Check check) {
        NestedCore core = returning(-15);
        core.rank(10, 0, true);
        core.run(1);
        check.same("USAGE is below the level once 10 is left", core.state(22), 5);
        check.same("HARD", core.state(19), 4);
        NestedCore faults = returning(-15);
        faults.put(17, 1);
        faults.run(1);
        check.same("FAULTS is off before the fault is looked at", faults.state(22), 5);
        NestedCore hard = Code.core();
        Code.handler(hard, 3, 512, Code.bx(14));
        hard.pend(3, true);
        hard.run(1);
        hard.put(14, -15);
        hard.run(1);
        check.same("HARD anew, not HALTED", hard.state(19), 5);
        check.same("HALTED", hard.state(6), 0);
        check.same("due", hard.state(3), 3);
        NestedCore always = Code.core();
        Code.handler(always, 2, 512, Code.bx(14));
        always.pend(2, true);
        always.run(1);
        always.put(14, -15);
        always.put(17, 1);
        always.run(1);
        check.same("after ALWAYS FAULTS stays on, so HALTED", always.state(6), 1);
    }
}
