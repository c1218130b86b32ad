/** Promise 9: branches, words of memory, the stack, the switches, and what is no instruction. */
public final class FlowTest {
    private static final int USAGE = 6;

    public static void main(String[] args) {
        Check check = new Check();
        conditions(check);
        branchesFarAndBack(check);
        branchToRegister(check);
        wordsByRegister(check);
        wordsByStack(check);
        stackPointer(check);
        pushAndPop(check);
        switches(check);
        everyHalfIsKnownOrNot(check);
        check.end();
    }

    private static boolean holds(int condition, int flags) {
        boolean n = (flags & Code.N) != 0;
        boolean z = (flags & Code.Z) != 0;
        boolean c = (flags & Code.C) != 0;
        boolean v = (flags & Code.V) != 0;
        boolean[] all = {z, !z, c, !c, n, !n, v, !v, c && !z, !c || z, n == v, n != v, !z && n == v, z || n != v};
        return all[condition];
    }

    private static void conditions(Check check) {
        for (int condition = 0; condition <= 13; condition++) {
            for (int flags = 0; flags <= 15; flags++) {
                NestedCore core = Code.flagged(flags, Code.branchIf(condition, 5));
                check.same("flags that came back", core.state(0), flags);
                core.run(1);
                int to = holds(condition, flags) ? Code.START + 14 : Code.START + 2;
                check.same("condition " + condition + " with " + flags, core.register(15), to);
                check.same("flags after it", core.state(0), flags);
            }
        }
    }

    private static int pcAfter(int half) {
        NestedCore core = Code.core(half);
        core.run(1);
        return core.register(15);
    }

    private static void branchesFarAndBack(Check check) {
        check.same("not Z, 127 on", pcAfter(Code.branchIf(1, 127)), Code.START + 4 + 254);
        check.same("not Z, 128 back", pcAfter(Code.branchIf(1, -128)), Code.START + 4 - 256);
        check.same("not Z, 1 back", pcAfter(Code.branchIf(1, -1)), Code.START + 2);
        check.same("1023 on", pcAfter(Code.branch(1023)), Code.START + 4 + 2046);
        check.same("1024 back", pcAfter(Code.branch(-1024)), Code.START + 4 - 2048);
        check.same("2 back", pcAfter(Code.branch(-2)), Code.START);
        check.same("0 on", pcAfter(Code.branch(0)), Code.START + 4);
    }

    private static void branchToRegister(Check check) {
        int[][] rows = {{301, 300}, {300, 300}, {-1, -2}, {-7, -8}, {-15, -16}, {0, 0}};
        for (int[] row : rows) {
            for (int r = 0; r <= 14; r++) {
                NestedCore core = Code.core(Code.bx(r));
                core.put(r, row[0]);
                core.run(1);
                check.same("BX R" + r + " of " + row[0], core.register(15), row[1]);
                check.same("faults", core.state(7), 0);
            }
        }
    }

    private static void wordsByRegister(Check check) {
        NestedCore core = Code.core(Code.store(3, 4, 31), Code.load(5, 4, 31), Code.load(6, 4, 0));
        core.put(3, -77);
        core.put(4, 600);
        core.set(600, 12);
        core.run(3);
        check.same("the word that was stored", core.word(724), -77);
        check.same("the word that was read", core.register(5), -77);
        check.same("the word at 0 on", core.register(6), 12);
        check.same("flags", core.state(0), 0);
        NestedCore last = Code.core(Code.store(0, 1, 1), Code.load(2, 1, 1));
        last.put(0, 5);
        last.put(1, -4);
        last.run(1);
        check.same("a base below memory", last.word(0), 5);
        last.put(1, 1016);
        last.set(1020, 6);
        last.run(1);
        check.same("the last word", last.register(2), 6);
    }

    private static void wordsByStack(Check check) {
        NestedCore core = Code.core(Code.storeSp(7, 0), Code.storeSp(6, 2), Code.loadSp(0, 2), Code.loadSp(1, 255));
        core.put(13, 0);
        core.put(7, 70);
        core.put(6, 60);
        core.set(1020, 50);
        core.run(4);
        check.same("SP + 0", core.word(0), 70);
        check.same("SP + 8", core.word(8), 60);
        check.same("R0 by SP + 8", core.register(0), 60);
        check.same("R1 by SP + 1020", core.register(1), 50);
        check.same("SP stays", core.register(13), 0);
    }

    private static void stackPointer(Check check) {
        NestedCore core = Code.core(Code.spLess(127), Code.spPlus(126), Code.spPlus(0), Code.spLess(0), Code.spLess(127));
        core.put(13, 3);
        core.run(1);
        check.same("SP less 508", core.register(13), -505);
        core.run(1);
        check.same("SP plus 504", core.register(13), -1);
        core.run(2);
        check.same("SP plus and less 0", core.register(13), -1);
        core.put(13, Integer.MIN_VALUE);
        core.run(1);
        check.same("SP wraps", core.register(13), Integer.MIN_VALUE - 508);
        NestedCore one = Code.core(Code.spPlus(1), Code.spLess(1));
        one.run(1);
        check.same("SP plus 4", one.register(13), 1028);
        one.run(1);
        check.same("SP less 4", one.register(13), 1024);
    }

    private static void pushAndPop(Check check) {
        NestedCore core = Code.core(Code.push(0x1A5), Code.pop(0x05A), Code.pop(0x101));
        for (int r = 0; r <= 7; r++) {
            core.put(r, 10 + r);
        }
        core.put(14, 401);
        core.run(1);
        int[] due = {10, 12, 15, 17, 401};
        for (int i = 0; i < due.length; i++) {
            check.same("pushed word " + i, core.word(1004 + 4 * i), due[i]);
        }
        check.same("SP after five", core.register(13), 1004);
        core.run(1);
        int[] registers = {10, 10, 12, 12, 15, 15, 17, 17};
        for (int r = 0; r <= 7; r++) {
            check.same("R" + r + " after four came back", core.register(r), registers[r]);
        }
        check.same("SP after four", core.register(13), 1020);
        core.put(13, 1016);
        core.run(1);
        check.same("R0 after two came back", core.register(0), 17);
        check.same("PC without its lowest bit", core.register(15), 400);
        check.same("SP after two", core.register(13), 1024);
        check.same("LR stays", core.register(14), 401);
        NestedCore alone = Code.core(Code.push(0x100), Code.pop(0x100));
        alone.put(14, -7);
        alone.run(2);
        check.same("-7 is no return while the number is 0", alone.register(15), -8);
    }

    private static void switches(Check check) {
        NestedCore core = Code.core(Code.MASK_ON, Code.MASK_OFF, Code.FAULTS_ON, Code.FAULTS_OFF, Code.MASK_ON, Code.FAULTS_ON);
        int[] masks = {1, 0, 0, 0, 1, 1};
        int[] faults = {0, 0, 1, 0, 0, 1};
        for (int i = 0; i < masks.length; i++) {
            core.run(1);
            check.same("MASK after step " + i, core.register(16), masks[i]);
            check.same("FAULTS after step " + i, core.register(17), faults[i]);
        }
        NestedCore hard = Code.core();
        Code.handler(hard, 3, 512, Code.FAULTS_ON, Code.FAULTS_OFF);
        hard.pend(3, true);
        hard.run(2);
        check.same("FAULTS stays off while HARD is active", hard.register(17), 0);
        check.same("and that is no fault", hard.state(7), 0);
        check.same("PC behind it", hard.register(15), 514);
        hard.put(17, 1);
        hard.run(1);
        check.same("FAULTS goes off while HARD is active", hard.register(17), 0);
    }

    private static boolean known(int half) {
        int five = half >> 11;
        if (five <= 2 || five >= 4 && five <= 7 || five == 12 || five == 13 || five == 18 || five == 19 || five == 28) {
            return true;
        }
        if (five == 3) {
            return (half >> 9 & 3) < 2;
        }
        if (half >> 10 == 16) {
            int kind = half >> 6 & 15;
            return kind < 2 || kind == 5 || kind == 6 || kind >= 8 && kind != 11;
        }
        if (half >> 8 == 0x46) {
            return (half & 0x87) != 0x87;
        }
        if (half >> 8 == 0x47) {
            return (half & 0x87) == 0 && half != 0x4778;
        }
        if (half >> 12 == 13) {
            return half >> 8 != 0xDE;
        }
        int seven = half >> 9;
        if (seven == 0x5A || seven == 0x5E) {
            return (half & 511) != 0;
        }
        return half >> 8 == 0xB0 || half == 0xBF00 || half == 0xB662 || half == 0xB672 || half == 0xB661 || half == 0xB671;
    }

    private static void everyHalfIsKnownOrNot(Check check) {
        for (int half = 0; half <= 0xFFFF; half++) {
            NestedCore core = Code.core(half);
            core.rank(USAGE, 0, true);
            core.run(1);
            String what = "USAGE by " + Integer.toHexString(half);
            check.same(what, core.state(16 + USAGE), known(half) ? 4 : 5);
            if (!known(half)) {
                check.same(what + ": PC", core.register(15), Code.START);
            }
        }
    }
}
