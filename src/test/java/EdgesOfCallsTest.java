import java.util.List;

/** One test for each sentence of the promises 1 to 10 that names an edge or refuses a call. */
public final class EdgesOfCallsTest {
    private static final int MIN = Integer.MIN_VALUE;
    private static final int MAX = Integer.MAX_VALUE;

    public static void main(String[] args) {
        Check check = new Check();
        notHalted(check);
        noWordToSet(check);
        noWordToRead(check);
        pcIsPutWithoutItsLowestBit(check);
        offForZero(check);
        floorByThreeBits(check);
        splitByTwoBits(check);
        reloadByEightBits(check);
        noRegisterToPut(check);
        switchesAsOneOrZero(check);
        noRegisterToRead(check);
        sevenToNineAreAlwaysEnabled(check);
        noExceptionToRank(check);
        noPriority(check);
        noExceptionToPend(check);
        areaIsOffForSizeZero(check);
        noArea(check);
        noRight(check);
        notAllInMemory(check);
        asManyStepsAsAsked(check);
        untilItIsHalted(check);
        noCountOfSteps(check);
        noneIsDue(check);
        noState(check);
        check.end();
    }

    /** A core in the middle of things, so that a refused call has something to spoil. */
    private static NestedCore busy() {
        NestedCore core = Code.core(Code.NOTHING);
        for (int r = 0; r <= 12; r++) {
            core.put(r, 100 + r);
        }
        core.rank(10, 5, true);
        core.pend(10, true);
        core.run(1);
        core.put(18, 6);
        core.put(19, 1);
        core.put(20, 77);
        core.pend(12, true);
        return core;
    }

    /** Promise 1: "not HALTED". The halves of a new memory are 0: R0 becomes R0 shifted by 0. */
    private static void notHalted(Check check) {
        NestedCore core = new NestedCore();
        check.same("run(25) of a new object", core.run(25), 25);
        check.same("HALTED", core.state(6), 0);
        check.same("PC", core.register(15), 50);
        check.same("flags", core.state(0), Code.Z);
        check.same("taken", core.state(4), 0);
    }

    private static boolean isWord(int address) {
        return address >= 0 && address <= 1020 && address % 4 == 0;
    }

    private static final int[] FAR = {MIN, MIN + 4, -1024, 2044, 2048, 65536, 0x40000000, MAX - 3, MAX};

    /** Promise 2: "Throws IllegalArgumentException when there is none." */
    private static void noWordToSet(Check check) {
        NestedCore core = new NestedCore();
        for (int address = -5; address <= 9; address++) {
            setOrRefused(check, core, address);
        }
        for (int address = 1015; address <= 1029; address++) {
            setOrRefused(check, core, address);
        }
        for (int address : FAR) {
            setOrRefused(check, core, address);
        }
        for (int address = 0; address < 1024; address += 4) {
            boolean written = address <= 8 || address >= 1016;
            check.same("word(" + address + ")", core.word(address), written ? address + 1 : 0);
        }
    }

    private static void setOrRefused(Check check, NestedCore core, int address) {
        if (isWord(address)) {
            core.set(address, address + 1);
        } else {
            check.refused("set(" + address + ", -1)", () -> core.set(address, -1));
        }
    }

    /** Promise 3: "Throws IllegalArgumentException when there is none." */
    private static void noWordToRead(Check check) {
        NestedCore core = new NestedCore();
        for (int address = -9; address <= 9; address++) {
            readOrRefused(check, core, address);
        }
        for (int address = 1011; address <= 1033; address++) {
            readOrRefused(check, core, address);
        }
        for (int address : FAR) {
            readOrRefused(check, core, address);
        }
    }

    private static void readOrRefused(Check check, NestedCore core, int address) {
        if (isWord(address)) {
            check.same("word(" + address + ")", core.word(address), 0);
        } else {
            check.refused("word(" + address + ")", () -> core.word(address));
        }
    }

    /** Promise 4: "Register r becomes v (PC without its lowest bit)". */
    private static void pcIsPutWithoutItsLowestBit(Check check) {
        NestedCore core = new NestedCore();
        int[] values = {0, 1, 2, 3, 1023, 1024, 1025, -1, -2, -7, -15, MIN, MIN + 1, MAX};
        for (int v : values) {
            for (int r = 13; r <= 15; r++) {
                core.put(r, v);
                check.same("register(" + r + ") after " + v, core.register(r), r == 15 ? v & ~1 : v);
            }
        }
    }

    /** Promise 4: "16 MASK, 17 FAULTS (off for 0)": on for all others. */
    private static void offForZero(Check check) {
        int[] values = {1, 2, -1, 256, 65536, MIN, MAX - 1};
        for (int v : values) {
            NestedCore core = new NestedCore();
            core.put(16, v);
            check.same("the level after put(16, " + v + ")", core.state(2), 0);
            core.put(17, v);
            check.same("the level after put(17, " + v + ")", core.state(2), -1);
            core.put(17, 0);
            check.same("the level after put(17, 0)", core.state(2), 0);
            core.put(16, 0);
            check.same("the level after put(16, 0)", core.state(2), 8);
        }
    }

    private static void lowestBits(Check check, int r, int most) {
        NestedCore core = new NestedCore();
        int[] values = {0, most, most + 1, most + 2, 2 * most + 1, -1, -most - 1, MIN, MIN + 1, MAX};
        for (int v : values) {
            core.put(r, v);
            check.same("register(" + r + ") after " + v, core.register(r), v & most);
        }
    }

    /** Promise 4: "18 FLOOR (lowest three bits)". */
    private static void floorByThreeBits(Check check) {
        lowestBits(check, 18, 7);
        NestedCore core = new NestedCore();
        core.put(18, 8);
        check.same("the level by FLOOR 8, which is 0", core.state(2), 8);
        core.put(18, 15);
        check.same("the level by FLOOR 15, which is 7", core.state(2), 7);
    }

    /** Promise 4: "19 the split (lowest two bits)". */
    private static void splitByTwoBits(Check check) {
        lowestBits(check, 19, 3);
        NestedCore core = new NestedCore();
        core.put(18, 7);
        core.put(19, 4);
        check.same("the level at split 4, which is 0", core.state(2), 7);
        core.put(19, -1);
        check.same("the level at split -1, which is 3", core.state(2), 0);
    }

    /** Promise 4: "20 RELOAD (lowest eight bits; COUNTER too)". */
    private static void reloadByEightBits(Check check) {
        lowestBits(check, 20, 255);
        NestedCore core = new NestedCore();
        int[] values = {255, 256, 257, -1, 0, MIN + 9};
        for (int v : values) {
            core.put(20, v);
            check.same("COUNTER after put(20, " + v + ")", core.state(8), v & 255);
        }
    }

    private static final int[] NO_REGISTERS = {-1, -2, 21, 22, 31, 32, 36, 256, 276, MIN, MIN + 20, MAX};

    /** Promise 4: "Throws IllegalArgumentException for another r." */
    private static void noRegisterToPut(Check check) {
        for (int r : NO_REGISTERS) {
            NestedCore core = busy();
            List<Integer> before = Look.at(core);
            check.refused("put(" + r + ", 9)", () -> core.put(r, 9));
            Look.unchanged(check, "put(" + r + ", 9)", core, before);
        }
        NestedCore core = new NestedCore();
        for (int r = 0; r <= 20; r++) {
            core.put(r, 0);
        }
    }

    /** Promise 5: "16, 17 as 1 or 0". */
    private static void switchesAsOneOrZero(Check check) {
        NestedCore core = new NestedCore();
        core.put(16, -9);
        core.put(17, MIN);
        check.same("register(16)", core.register(16), 1);
        check.same("register(17)", core.register(17), 1);
        core.put(16, 0);
        check.same("register(16) off", core.register(16), 0);
        check.same("register(17) still on", core.register(17), 1);
        core.put(17, 0);
        check.same("register(17) off", core.register(17), 0);
    }

    /** Promise 5: "Throws IllegalArgumentException for another r." */
    private static void noRegisterToRead(Check check) {
        NestedCore core = busy();
        for (int r : NO_REGISTERS) {
            check.refused("register(" + r + ")", () -> core.register(r));
        }
    }

    /** Promise 6: "is enabled or not (7, 8, 9 always are)". */
    private static void sevenToNineAreAlwaysEnabled(Check check) {
        for (int e = 4; e <= 15; e++) {
            NestedCore core = new NestedCore();
            core.rank(e, 7, false);
            core.pend(e, true);
            boolean always = e >= 7 && e <= 9;
            check.same(e + " ranked as not enabled", core.state(16 + e), always ? 5 : 1);
            check.same(e + " is due", core.state(3), always ? e : 0);
        }
    }

    /** Promise 6: "when e is not 4 .. 15". */
    private static void noExceptionToRank(Check check) {
        int[] none = {MIN, -4, -1, 0, 1, 2, 3, 16, 17, 20, 260, MAX};
        for (int e : none) {
            NestedCore core = busy();
            core.pend(2, true);
            List<Integer> before = Look.at(core);
            check.refused("rank(" + e + ", 0, false)", () -> core.rank(e, 0, false));
            check.refused("rank(" + e + ", 7, true)", () -> core.rank(e, 7, true));
            Look.unchanged(check, "rank of " + e, core, before);
        }
        NestedCore core = new NestedCore();
        core.rank(4, 0, true);
        core.rank(15, 7, true);
        check.same("4 is ranked", core.state(20), 4);
        check.same("15 is ranked", core.state(31), 4);
    }

    /** Promise 6: "or priority not 0 .. 7". */
    private static void noPriority(Check check) {
        int[] none = {MIN, -8, -2, -1, 8, 9, 15, 256, MAX};
        for (int priority : none) {
            for (int e = 4; e <= 15; e++) {
                int line = e;
                NestedCore core = new NestedCore();
                core.put(13, 1024);
                core.rank(e, 4, true);
                core.pend(e, true);
                core.run(1);
                check.refused("rank(" + e + ", " + priority + ", false)", () -> core.rank(line, priority, false));
                check.same("the priority of " + e + " stays", core.state(2), 4);
                check.same(e + " stays enabled", core.state(16 + e), 6);
            }
        }
    }

    /** Promise 7: "Throws IllegalArgumentException when e is not 2 .. 15." */
    private static void noExceptionToPend(Check check) {
        int[] none = {MIN, -2, -1, 0, 1, 16, 17, 18, 258, MAX};
        for (int e : none) {
            NestedCore core = busy();
            List<Integer> before = Look.at(core);
            check.refused("pend(" + e + ", true)", () -> core.pend(e, true));
            check.refused("pend(" + e + ", false)", () -> core.pend(e, false));
            Look.unchanged(check, "pend of " + e, core, before);
        }
        NestedCore core = new NestedCore();
        core.pend(2, true);
        core.pend(15, true);
        check.same("2 is pending", core.state(18), 5);
        check.same("15 is pending", core.state(31), 1);
    }

    /** A step that reads the word at an address: is it barred? */
    private static boolean barred(NestedCore core, int address) {
        Code.write(core, Code.START, Code.load(1, 0, 0));
        core.put(0, address);
        core.put(15, Code.START);
        int faults = core.state(7);
        core.run(1);
        core.pend(3, false);
        return core.state(7) != faults;
    }

    /** Promise 8: "off for a size 0". */
    private static void areaIsOffForSizeZero(Check check) {
        for (int k = 0; k <= 3; k++) {
            NestedCore core = new NestedCore();
            core.area(k, 600, 8, 0, false);
            check.same("area " + k + " bars", barred(core, 604) ? 1 : 0, 1);
            core.area(k, 604, 0, 0, true);
            check.same("area " + k + " is off", barred(core, 604) ? 1 : 0, 0);
            check.same("all of area " + k + " is off", barred(core, 600) ? 1 : 0, 0);
            core.area(k, 0, 0, 0, true);
            core.area(k, 1024, 0, 2, true);
            check.same("no instruction is barred either", core.run(1), 1);
            check.same("one fault in all", core.state(7), 1);
        }
    }

    private static void areaRefused(Check check, int k, int from, int size, int right) {
        NestedCore core = new NestedCore();
        for (int each = 0; each <= 3; each++) {
            core.area(each, 700 + 4 * each, 4, 0, false);
        }
        String call = "area(" + k + ", " + from + ", " + size + ", " + right + ", true)";
        check.refused(call, () -> core.area(k, from, size, right, true));
        for (int address = 696; address <= 716; address += 4) {
            boolean due = address >= 700 && address <= 712;
            check.same(address + " barred after " + call, barred(core, address) ? 1 : 0, due ? 1 : 0);
        }
    }

    /** Promise 8: "when k is not 0 .. 3". */
    private static void noArea(Check check) {
        int[] none = {MIN, -4, -1, 4, 5, 8, MAX};
        for (int k : none) {
            areaRefused(check, k, 0, 1024, 2);
            areaRefused(check, k, 0, 0, 0);
        }
    }

    /** Promise 8: "right not 0 .. 2". */
    private static void noRight(Check check) {
        int[] none = {MIN, -1, 3, 4, MAX};
        for (int right : none) {
            areaRefused(check, 3, 0, 1024, right);
            areaRefused(check, 0, 0, 0, right);
        }
    }

    /** Promise 8: "or it is not all in memory (sizes below 0, too)". */
    private static void notAllInMemory(Check check) {
        int[][] none = {
            {0, 1025}, {1, 1024}, {1020, 5}, {1023, 2}, {1024, 1}, {1025, 1}, {-1, 1}, {-1, 2}, {-1, 1025}, {-4, 8},
            {0, -1}, {4, -4}, {1024, -1}, {1025, -1}, {2048, -1024}, {0, MIN}, {-1, MIN}, {MIN, MIN}, {MIN, MAX},
            {MAX, MAX}, {MAX, 1}, {1, MAX}, {MIN, 1}, {MIN, 0}, {-1, 0}, {1025, 0}, {MAX, MIN},
        };
        for (int[] row : none) {
            areaRefused(check, 2, row[0], row[1], 2);
        }
        int[][] inside = {{0, 1024}, {0, 1}, {1, 1023}, {1020, 4}, {1023, 1}};
        for (int[] row : inside) {
            NestedCore core = new NestedCore();
            core.area(0, row[0], row[1], 0, false);
            core.put(13, 1024);
            int at = row[0] + row[1] - 1 & ~3;
            boolean due = at >= row[0];
            core.area(1, Code.START, 2, 2, false);
            check.same("the last word of " + row[0] + ", " + row[1], barred(core, at) ? 1 : 0, due ? 1 : 0);
        }
    }

    /** Promise 9: "n steps". */
    private static void asManyStepsAsAsked(Check check) {
        int[] counts = {1, 2, 24, 25};
        for (int n : counts) {
            NestedCore core = Code.core(Code.branch(-2));
            core.put(20, 255);
            check.same("run(" + n + ")", core.run(n), n);
            check.same("COUNTER after run(" + n + ")", core.state(8), 255 - n);
        }
    }

    /** Promise 9: "or until it is HALTED: how many were done (that which halted it, too)". */
    private static void untilItIsHalted(Check check) {
        for (int before = 0; before <= 25; before++) {
            NestedCore core = Code.core();
            core.put(17, 1);
            for (int at = 0; at < 52; at += 4) {
                Code.write(core, Code.START + at, Code.NOTHING, Code.NOTHING);
            }
            Code.write(core, Code.START + 2 * before & ~3, before % 2 == 0 ? Code.UNKNOWN : Code.NOTHING, Code.UNKNOWN);
            check.same("run(25), HALTED by step " + (before + 1), core.run(25), before < 25 ? before + 1 : 25);
            check.same("HALTED", core.state(6), before < 25 ? 1 : 0);
        }
        NestedCore core = Code.core(Code.NOTHING, Code.UNKNOWN);
        core.put(17, 1);
        check.same("the last step asked for halts", core.run(2), 2);
        check.same("HALTED", core.state(6), 1);
        check.same("run(1) while HALTED", core.run(1), 0);
        check.same("run(25) while HALTED", core.run(25), 0);
    }

    /** Promise 9: "Throws IllegalArgumentException when n is not 1 .. 25." */
    private static void noCountOfSteps(Check check) {
        int[] none = {MIN, -25, -1, 0, 26, 27, 257, MAX};
        for (int n : none) {
            NestedCore core = busy();
            List<Integer> before = Look.at(core);
            check.refused("run(" + n + ")", () -> core.run(n));
            Look.unchanged(check, "run(" + n + ")", core, before);
        }
    }

    /** Promise 10: "the next exception that is due (0 for none)". */
    private static void noneIsDue(Check check) {
        NestedCore core = new NestedCore();
        check.same("none is pending", core.state(3), 0);
        core.pend(10, true);
        check.same("none is enabled", core.state(3), 0);
        core.rank(10, 7, true);
        check.same("10 is due", core.state(3), 10);
        core.put(18, 7);
        check.same("10 is next and not due", core.state(3), 0);
        core.pend(10, false);
        core.put(18, 0);
        check.same("none is pending any more", core.state(3), 0);
    }

    /** Promise 10: "Throws IllegalArgumentException for another what." */
    private static void noState(Check check) {
        NestedCore core = busy();
        for (int what = -20; what <= 60; what++) {
            int asked = what;
            if (what >= 0 && what <= 8 || what >= 18 && what <= 31) {
                core.state(what);
            } else {
                check.refused("state(" + what + ")", () -> core.state(asked));
            }
        }
        check.refused("state(MIN)", () -> core.state(MIN));
        check.refused("state(MAX)", () -> core.state(MAX));
        check.refused("state(MIN + 18)", () -> core.state(MIN + 18));
    }
}
