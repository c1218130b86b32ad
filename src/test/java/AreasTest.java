/** Promise 8: area, and what the areas bar. */
public final class AreasTest {
    private static final int BARRED = 4;

    public static void main(String[] args) {
        Check check = new Check();
        othersAreRefused(check);
        edgesAreTaken(check);
        rights(check);
        theHighestCounts(check);
        theFirstByteCounts(check);
        instructions(check);
        offForSizeZero(check);
        whatWasRefusedChangesNothing(check);
        severalWords(check);
        eachWordByItsFirstByte(check);
        framesAreNotBarred(check);
        check.end();
    }

    private static void refused(Check check, int k, int from, int size, int right) {
        String call = "area(" + k + ", " + from + ", " + size + ", " + right + ", false)";
        check.refused(call, () -> new NestedCore().area(k, from, size, right, false));
    }

    private static void othersAreRefused(Check check) {
        int[] noAreas = {-1, 4, 5, Integer.MIN_VALUE, Integer.MAX_VALUE};
        for (int k : noAreas) {
            refused(check, k, 0, 4, 0);
            refused(check, k, 0, 0, 0);
        }
        int[] noRights = {-1, 3, 4, Integer.MIN_VALUE, Integer.MAX_VALUE};
        for (int right : noRights) {
            refused(check, 0, 0, 4, right);
            refused(check, 0, 0, 0, right);
        }
        int[][] outside = {
            {0, -1}, {8, -4}, {0, 1025}, {1, 1024}, {1023, 2}, {1024, 1}, {-1, 4}, {-4, 4}, {-4, 8},
            {Integer.MAX_VALUE, Integer.MAX_VALUE}, {Integer.MAX_VALUE, 1}, {0, Integer.MAX_VALUE},
            {1, Integer.MAX_VALUE}, {Integer.MIN_VALUE, Integer.MIN_VALUE}, {512, Integer.MIN_VALUE},
            {Integer.MIN_VALUE, 4},
        };
        for (int[] row : outside) {
            refused(check, 1, row[0], row[1], 2);
        }
    }

    private static void edgesAreTaken(Check check) {
        NestedCore core = new NestedCore();
        for (int k = 0; k <= 3; k++) {
            for (int right = 0; right <= 2; right++) {
                core.area(k, 0, 1024, right, true);
                core.area(k, 1023, 1, right, false);
                core.area(k, 0, 0, right, false);
                core.area(k, 1024, 0, right, false);
            }
        }
        check.same("the level stays", core.state(2), 8);
    }

    /** A core that stores R1 to, and then reads R2 from, where R0 points; AREA is enabled. */
    private static NestedCore storing(int address) {
        NestedCore core = Code.core(Code.store(1, 0, 0), Code.load(2, 0, 0));
        core.rank(BARRED, 0, true);
        core.put(0, address);
        core.put(1, 99);
        return core;
    }

    private static boolean storeIsBarred(Check check, NestedCore core) {
        int address = core.register(0);
        core.put(15, Code.START);
        core.run(1);
        boolean barred = core.state(16 + BARRED) == 5;
        check.same("PC after a store", core.register(15), Code.START + (barred ? 0 : 2));
        check.same("what was stored", core.word(address), barred ? 0 : 99);
        core.pend(BARRED, false);
        core.set(address, 0);
        return barred;
    }

    private static boolean readIsBarred(Check check, NestedCore core) {
        core.put(2, -5);
        core.set(core.register(0), 31);
        core.put(15, Code.START + 2);
        core.run(1);
        boolean barred = core.state(16 + BARRED) == 5;
        check.same("what was read", core.register(2), barred ? -5 : 31);
        core.pend(BARRED, false);
        core.set(core.register(0), 0);
        return barred;
    }

    private static void bars(Check check, String what, NestedCore core, boolean read, boolean store) {
        check.same(what + ": a read is barred", readIsBarred(check, core) ? 1 : 0, read ? 1 : 0);
        check.same(what + ": a store is barred", storeIsBarred(check, core) ? 1 : 0, store ? 1 : 0);
    }

    private static void rights(Check check) {
        NestedCore core = storing(800);
        bars(check, "no area", core, false, false);
        core.area(0, 800, 4, 0, false);
        bars(check, "right 0", core, true, true);
        core.area(0, 800, 4, 1, false);
        bars(check, "right 1", core, false, true);
        core.area(0, 800, 4, 2, false);
        bars(check, "right 2", core, false, false);
        core.area(0, 800, 4, 2, true);
        bars(check, "never is for instructions alone", core, false, false);
    }

    private static void theHighestCounts(Check check) {
        NestedCore core = storing(800);
        core.area(1, 0, 1024, 2, false);
        core.area(2, 800, 4, 0, false);
        bars(check, "2 above 1", core, true, true);
        core.area(3, 796, 8, 1, false);
        bars(check, "3 above 2", core, false, true);
        core.area(3, 796, 4, 1, false);
        bars(check, "3 ends before it", core, true, true);
        core.area(3, 804, 4, 1, false);
        bars(check, "3 begins behind it", core, true, true);
    }

    private static void theFirstByteCounts(Check check) {
        NestedCore core = storing(800);
        core.area(0, 801, 3, 0, false);
        bars(check, "all bytes but the first", core, false, false);
        core.area(0, 800, 1, 0, false);
        bars(check, "the first byte alone", core, true, true);
        core.area(0, 797, 3, 0, false);
        bars(check, "the bytes before it", core, false, false);
    }

    private static void fetch(Check check, String what, int from, int size, int right, boolean never, boolean barred) {
        NestedCore core = Code.core(Code.mov(0, 1), Code.mov(1, 2));
        core.rank(BARRED, 0, true);
        core.put(15, Code.START + 2);
        core.area(2, from, size, right, never);
        core.run(1);
        check.same(what + ": AREA", core.state(16 + BARRED), barred ? 5 : 4);
        check.same(what + ": R1", core.register(1), barred ? 0 : 2);
        check.same(what + ": PC", core.register(15), Code.START + (barred ? 2 : 4));
        check.same(what + ": faults", core.state(7), barred ? 1 : 0);
    }

    private static void instructions(Check check) {
        int at = Code.START + 2;
        fetch(check, "right 0", at, 2, 0, false, true);
        fetch(check, "right 1", at, 2, 1, false, false);
        fetch(check, "right 2", at, 2, 2, false, false);
        fetch(check, "right 1, never", at, 2, 1, true, true);
        fetch(check, "right 2, never", at, 2, 2, true, true);
        fetch(check, "the first byte", at, 1, 0, false, true);
        fetch(check, "the second byte", at + 1, 1, 0, false, false);
        fetch(check, "the half before", at - 2, 2, 0, false, false);
    }

    private static void offForSizeZero(Check check) {
        NestedCore core = storing(800);
        core.area(3, 800, 4, 0, true);
        bars(check, "on", core, true, true);
        core.area(3, 800, 0, 0, true);
        bars(check, "off", core, false, false);
        core.area(1, 800, 4, 1, false);
        core.area(3, 800, 0, 2, false);
        bars(check, "a lower one counts", core, false, true);
    }

    private static void whatWasRefusedChangesNothing(Check check) {
        NestedCore core = storing(800);
        core.area(0, 800, 4, 1, false);
        check.refused("area(0, 800, 300, 2, false)", () -> core.area(0, 800, 300, 2, false));
        check.refused("area(0, 800, 4, 3, false)", () -> core.area(0, 800, 4, 3, false));
        check.refused("area(0, 800, -1, 2, false)", () -> core.area(0, 800, -1, 2, false));
        bars(check, "as before", core, false, true);
    }

    private static void severalWords(Check check) {
        NestedCore core = Code.core(Code.push(7), Code.pop(7));
        core.rank(BARRED, 0, true);
        core.put(0, 10);
        core.put(1, 11);
        core.put(2, 12);
        core.area(0, 1020, 4, 1, false);
        core.run(1);
        check.same("a push into a barred word", core.state(16 + BARRED), 5);
        check.same("its other words", core.word(1012), 0);
        check.same("SP", core.register(13), 1024);
        core.pend(BARRED, false);
        core.put(13, 1012);
        core.put(15, Code.START + 2);
        core.run(1);
        check.same("a pop from a word to read", core.register(13), 1024);
        core.put(0, 5);
        core.put(13, 1012);
        core.put(15, Code.START + 2);
        core.area(0, 1020, 4, 0, false);
        core.run(1);
        check.same("a pop from a barred word", core.state(16 + BARRED), 5);
        check.same("R0 after it", core.register(0), 5);
        check.same("SP after it", core.register(13), 1012);
    }

    /** A pop of three words from 900 on, with one byte barred. */
    private static void eachWordByItsFirstByte(Check check) {
        for (int address = 896; address < 916; address++) {
            NestedCore core = Code.core(Code.pop(7));
            core.rank(BARRED, 0, true);
            core.put(13, 900);
            core.area(3, address, 1, 0, false);
            core.run(1);
            boolean barred = address == 900 || address == 904 || address == 908;
            check.same("a pop with byte " + address + " barred", core.state(16 + BARRED), barred ? 5 : 4);
        }
    }

    private static void framesAreNotBarred(Check check) {
        NestedCore core = Code.core(Code.NOTHING);
        Code.handler(core, 10, 512, Code.bx(14));
        core.rank(10, 1, true);
        core.put(3, 33);
        core.area(0, 992, 32, 0, false);
        core.area(1, 0, 64, 0, false);
        core.pend(10, true);
        core.run(1);
        check.same("the number", core.state(1), 10);
        check.same("the frame", core.word(1004), 33);
        core.put(3, 0);
        core.run(1);
        check.same("the number that came back", core.state(1), 0);
        check.same("R3 that came back", core.register(3), 33);
        check.same("faults", core.state(7), 0);
    }
}
