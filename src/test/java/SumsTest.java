/** Promise 9: the instructions that shift, add, compare and combine, with their flags. */
public final class SumsTest {
    private static final int MIN = Integer.MIN_VALUE;
    private static final int MAX = Integer.MAX_VALUE;
    /** Flags that a test begins with: none, and all that there are. */
    private static final int[] BEGINNINGS = {0, 15};

    public static void main(String[] args) {
        Check check = new Check();
        shifts(check);
        threeRegisters(check);
        numbers(check);
        combinations(check);
        withCarry(check);
        everyPairOfSums(check);
        copies(check);
        check.end();
    }

    /** A core with one instruction, registers from R0 on, and flags. */
    private static NestedCore prepared(int half, int begin, int... values) {
        NestedCore core = Code.flagged(begin, half);
        for (int r = 0; r < values.length; r++) {
            core.put(r, values[r]);
        }
        return core;
    }

    /** After half with x = R0, y = R1, z = R2, R0 is result; flags: those of mask are due, the others stay. */
    private static void due(Check check, String what, int half, int[] values, int result, int mask, int flags) {
        for (int begin : BEGINNINGS) {
            NestedCore core = prepared(half, begin, values);
            core.run(1);
            String call = what + " with flags " + begin;
            check.same(call, core.register(0), result);
            check.same(call + ": flags", core.state(0), begin & ~mask | flags);
            check.same(call + ": faults", core.state(7), 0);
            check.same(call + ": PC", core.register(15), Code.START + 2);
            for (int r = 1; r < values.length; r++) {
                check.same(call + ": R" + r, core.register(r), values[r]);
            }
        }
    }

    private static int[] row(int... values) {
        return values;
    }

    private static void shifts(Check check) {
        int nz = Code.N | Code.Z;
        int nzc = nz | Code.C;
        for (int kind = 0; kind <= 2; kind++) {
            due(check, "shift by 0", Code.shift(kind, 0, 1, 0), row(9, -5), -5, nz, Code.N);
            due(check, "shift of 0 by 0", Code.shift(kind, 0, 1, 0), row(9, 0), 0, nz, Code.Z);
        }
        due(check, "up 1", Code.shift(0, 0, 1, 1), row(0, 0x40000001), 0x80000002, nzc, Code.N);
        due(check, "up 1, out", Code.shift(0, 0, 1, 1), row(0, MIN), 0, nzc, Code.Z | Code.C);
        due(check, "up 4", Code.shift(0, 0, 1, 4), row(0, 0x18000003), 0x80000030, nzc, Code.N | Code.C);
        due(check, "up 31", Code.shift(0, 0, 1, 31), row(0, 2), 0, nzc, Code.Z | Code.C);
        due(check, "up 31, in", Code.shift(0, 0, 1, 31), row(0, 1), MIN, nzc, Code.N);
        due(check, "down 1", Code.shift(1, 0, 1, 1), row(0, -1), MAX, nzc, Code.C);
        due(check, "down 1, even", Code.shift(1, 0, 1, 1), row(0, 4), 2, nzc, 0);
        due(check, "down 31", Code.shift(1, 0, 1, 31), row(0, MIN), 1, nzc, 0);
        due(check, "down 31, out", Code.shift(1, 0, 1, 31), row(0, 0x40000000), 0, nzc, Code.Z | Code.C);
        due(check, "down with sign 1", Code.shift(2, 0, 1, 1), row(0, -1), -1, nzc, Code.N | Code.C);
        due(check, "down with sign 4", Code.shift(2, 0, 1, 4), row(0, MIN), MIN >> 4, nzc, Code.N);
        due(check, "down with sign 31", Code.shift(2, 0, 1, 31), row(0, MIN), -1, nzc, Code.N);
        due(check, "down with sign 3", Code.shift(2, 0, 1, 3), row(0, 0x74), 0xE, nzc, Code.C);
        due(check, "a register itself", Code.shift(0, 0, 0, 3), row(5), 40, nzc, 0);
    }

    private static void threeRegisters(Check check) {
        int add = Code.add(0, 1, 2);
        int sub = Code.sub(0, 1, 2);
        due(check, "1 + 2", add, row(7, 1, 2), 3, 15, 0);
        due(check, "-1 + 1", add, row(7, -1, 1), 0, 15, Code.Z | Code.C);
        due(check, "MAX + 1", add, row(7, MAX, 1), MIN, 15, Code.N | Code.V);
        due(check, "MIN + MIN", add, row(7, MIN, MIN), 0, 15, Code.Z | Code.C | Code.V);
        due(check, "-3 + -4", add, row(7, -3, -4), -7, 15, Code.N | Code.C);
        due(check, "2 - 1", sub, row(7, 2, 1), 1, 15, Code.C);
        due(check, "1 - 2", sub, row(7, 1, 2), -1, 15, Code.N);
        due(check, "5 - 5", sub, row(7, 5, 5), 0, 15, Code.Z | Code.C);
        due(check, "MIN - 1", sub, row(7, MIN, 1), MAX, 15, Code.C | Code.V);
        due(check, "0 - MIN", sub, row(7, 0, MIN), MIN, 15, Code.N | Code.V);
        due(check, "MAX - -1", sub, row(7, MAX, -1), MIN, 15, Code.N | Code.V);
    }

    private static void numbers(Check check) {
        due(check, "becomes 255", Code.mov(0, 255), row(-1), 255, Code.N | Code.Z, 0);
        due(check, "becomes 0", Code.mov(0, 0), row(-1), 0, Code.N | Code.Z, Code.Z);
        due(check, "compared, equal", Code.cmp(0, 200), row(200), 200, 15, Code.Z | Code.C);
        due(check, "compared, less", Code.cmp(0, 255), row(254), 254, 15, Code.N);
        due(check, "compared, MIN", Code.cmp(0, 1), row(MIN), MIN, 15, Code.C | Code.V);
        due(check, "compared with 0", Code.cmp(0, 0), row(0), 0, 15, Code.Z | Code.C);
        due(check, "plus 255", Code.number(2, 0, 255), row(-255), 0, 15, Code.Z | Code.C);
        due(check, "plus 1", Code.number(2, 0, 1), row(MAX), MIN, 15, Code.N | Code.V);
        due(check, "less 255", Code.number(3, 0, 255), row(0), -255, 15, Code.N);
        due(check, "less 1", Code.number(3, 0, 1), row(1), 0, 15, Code.Z | Code.C);
        NestedCore core = Code.core(Code.mov(7, 3), Code.number(2, 7, 4), Code.number(3, 7, 9));
        core.run(3);
        check.same("R7 by numbers", core.register(7), -2);
    }

    private static void combinations(Check check) {
        int nz = Code.N | Code.Z;
        due(check, "and", Code.combine(0, 0, 1), row(12, 10), 8, nz, 0);
        due(check, "and, 0", Code.combine(0, 0, 1), row(12, 3), 0, nz, Code.Z);
        due(check, "exclusive or", Code.combine(1, 0, 1), row(12, -1), ~12, nz, Code.N);
        due(check, "exclusive or, 0", Code.combine(1, 0, 1), row(12, 12), 0, nz, Code.Z);
        due(check, "or", Code.combine(12, 0, 1), row(12, 3), 15, nz, 0);
        due(check, "and not", Code.combine(14, 0, 1), row(15, 5), 10, nz, 0);
        due(check, "and not, with sign", Code.combine(14, 0, 1), row(-1, 1), -2, nz, Code.N);
        due(check, "not", Code.combine(15, 0, 1), row(7, 7), -8, nz, Code.N);
        due(check, "not, 0", Code.combine(15, 0, 1), row(7, -1), 0, nz, Code.Z);
        due(check, "times", Code.combine(13, 0, 1), row(-3, 5), -15, nz, Code.N);
        due(check, "times, wrapped", Code.combine(13, 0, 1), row(0x10001, 0x10000), 0x10000, nz, 0);
        due(check, "and for the flags", Code.combine(8, 0, 1), row(MIN, -1), MIN, nz, Code.N);
        due(check, "and for the flags, 0", Code.combine(8, 0, 1), row(1, 2), 1, nz, Code.Z);
        due(check, "0 less", Code.combine(9, 0, 1), row(77, 5), -5, 15, Code.N);
        due(check, "0 less 0", Code.combine(9, 0, 1), row(77, 0), 0, 15, Code.Z | Code.C);
        due(check, "0 less MIN", Code.combine(9, 0, 1), row(77, MIN), MIN, 15, Code.N | Code.V);
        due(check, "compared", Code.combine(10, 0, 1), row(3, 4), 3, 15, Code.N);
        due(check, "compared, above", Code.combine(10, 0, 1), row(-1, 4), -1, 15, Code.N | Code.C);
    }

    private static void carried(Check check, int kind, int[] values, int begin, int result, int flags) {
        NestedCore core = prepared(Code.combine(kind, 0, 1), begin, values);
        core.run(1);
        String what = values[0] + (kind == 5 ? " plus " : " less ") + values[1] + " with flags " + begin;
        check.same(what, core.register(0), result);
        check.same(what + ": flags", core.state(0), flags);
    }

    private static void withCarry(Check check) {
        carried(check, 5, row(1, 2), 0, 3, 0);
        carried(check, 5, row(1, 2), Code.C, 4, 0);
        carried(check, 5, row(-1, 0), Code.C, 0, Code.Z | Code.C);
        carried(check, 5, row(-1, -1), Code.C, -1, Code.N | Code.C);
        carried(check, 5, row(MAX, 0), Code.C, MIN, Code.N | Code.V);
        carried(check, 5, row(MAX, MIN), Code.C, 0, Code.Z | Code.C);
        carried(check, 6, row(5, 2), Code.C, 3, Code.C);
        carried(check, 6, row(5, 2), 0, 2, Code.C);
        carried(check, 6, row(5, 5), 0, -1, Code.N);
        carried(check, 6, row(5, 5), Code.C, 0, Code.Z | Code.C);
        carried(check, 6, row(MIN, 0), 0, MAX, Code.C | Code.V);
        carried(check, 6, row(0, MIN), 0, MAX, 0);
        carried(check, 6, row(0, MIN), Code.C, MIN, Code.N | Code.V);
        carried(check, 6, row(0, -1), 0, 0, Code.Z);
    }

    private static void everyPairOfSums(Check check) {
        int[] values = {0, 1, 2, -1, -2, MAX, MIN, MIN + 1, 0x55555555};
        for (int a : values) {
            for (int b : values) {
                sumIsDue(check, Code.add(0, 1, 2), a, b, (long) a + b, Integer.compareUnsigned(a + b, a) < 0);
                sumIsDue(check, Code.sub(0, 1, 2), a, b, (long) a - b, Integer.compareUnsigned(a, b) >= 0);
            }
        }
    }

    private static void sumIsDue(Check check, int half, int a, int b, long exact, boolean carry) {
        NestedCore core = Code.core(half);
        core.put(1, a);
        core.put(2, b);
        core.run(1);
        int result = (int) exact;
        int flags = (result < 0 ? Code.N : 0) | (result == 0 ? Code.Z : 0) | (carry ? Code.C : 0)
                | (result != exact ? Code.V : 0);
        check.same(a + " and " + b + " by " + half, core.register(0), result);
        check.same(a + " and " + b + " by " + half + ": flags", core.state(0), flags);
    }

    private static void copies(Check check) {
        for (int from = 0; from <= 15; from++) {
            for (int to = 0; to <= 14; to++) {
                NestedCore core = prepared(Code.copy(to, from), 5);
                for (int r = 0; r <= 14; r++) {
                    core.put(r, -100 - r);
                }
                core.run(1);
                String what = "R" + to + " becomes R" + from;
                check.same(what, core.register(to), from == 15 ? Code.START + 4 : -100 - from);
                check.same(what + ": flags", core.state(0), 5);
                check.same(what + ": PC", core.register(15), Code.START + 2);
            }
        }
    }
}
