/** One test for each sentence of the Terms, up to what a step does, that names an edge; and those on areas. */
public final class EdgesOfTermsTest {
    private static final int MIN = Integer.MIN_VALUE;
    private static final int MAX = Integer.MAX_VALUE;

    public static void main(String[] args) {
        Check check = new Check();
        halvesAtEvenAddresses(check);
        intsWrap(check);
        alwaysAndHardHaveTheirPriorities(check);
        alwaysAndHardAreTheirOwnGroups(check);
        groupsBySplit(check);
        levelOfNothing(check);
        levelOfTheActive(check);
        levelOfFloorIfNotZero(check);
        levelOfMask(check);
        levelOfFaults(check);
        leastGroupThenRestThenNumber(check);
        dueBelowTheLevelAlone(check);
        pendingAndEnabledOnes(check);
        fromAnAddressOnSoManyBytes(check);
        highestAreaCounts(check);
        withoutAnyAreaAllIsRight(check);
        firstByteCounts(check);
        allWordsForBusThenForArea(check);
        check.end();
    }

    /** "halves of 16 bits at even ones", "the lowest byte of a number first". */
    private static void halvesAtEvenAddresses(Check check) {
        NestedCore core = new NestedCore();
        core.set(0, Code.mov(0, 1) | Code.mov(1, 2) << 16);
        core.set(1020, Code.mov(2, 3) | Code.mov(3, 4) << 16);
        int[] addresses = {0, 2, 1020, 1022};
        for (int i = 0; i < addresses.length; i++) {
            core.put(15, addresses[i]);
            core.run(1);
            check.same("R" + i + " by the half at " + addresses[i], core.register(i), i + 1);
            check.same("PC behind it", core.register(15), addresses[i] + 2);
        }
    }

    /** "ints wrap": where a place or a pointer is reckoned, too. */
    private static void intsWrap(Check check) {
        NestedCore byRegister = Code.core(Code.load(2, 1, 2), Code.store(3, 1, 2));
        byRegister.set(4, 44);
        byRegister.put(1, -4);
        byRegister.put(3, 55);
        byRegister.run(2);
        check.same("the word at -4 + 8 read", byRegister.register(2), 44);
        check.same("the word at -4 + 8 written", byRegister.word(4), 55);
        NestedCore bySp = Code.core(Code.loadSp(2, 255));
        bySp.set(0, 66);
        bySp.put(13, -1020);
        bySp.run(1);
        check.same("the word at -1020 + 1020", bySp.register(2), 66);
        NestedCore above = Code.core(Code.load(2, 1, 1));
        above.put(1, MAX - 3);
        above.run(1);
        check.same("the word behind the greatest is none", above.state(7), 1);
        NestedCore plus = Code.core(Code.spPlus(1));
        plus.put(13, MAX - 2);
        plus.run(1);
        check.same("SP beyond the greatest", plus.register(13), MIN + 1);
        NestedCore popped = Code.core(Code.pop(1));
        popped.put(13, -4);
        popped.run(1);
        check.same("a pop below memory is a fault", popped.state(7), 1);
        NestedCore pushed = Code.core(Code.push(1));
        pushed.put(13, MIN);
        pushed.run(1);
        check.same("a push below the least is a fault", pushed.state(7), 1);
        check.same("SP stays", pushed.register(13), MIN);
    }

    private static NestedCore taken(int e) {
        NestedCore core = new NestedCore();
        core.put(13, 1024);
        core.pend(e, true);
        core.run(1);
        return core;
    }

    /** "2 ALWAYS (priority -2), 3 HARD (-1)". */
    private static void alwaysAndHardHaveTheirPriorities(Check check) {
        check.same("the level of ALWAYS", taken(2).state(2), -2);
        check.same("the level of HARD", taken(3).state(2), -1);
        NestedCore core = taken(3);
        core.pend(3, true);
        check.same("HARD under HARD", core.state(3), 0);
        core.pend(2, true);
        check.same("ALWAYS under HARD", core.state(3), 2);
        NestedCore always = taken(2);
        always.pend(2, true);
        always.pend(3, true);
        check.same("both under ALWAYS", always.state(3), 0);
    }

    /** "-2 and -1 are their own groups". */
    private static void alwaysAndHardAreTheirOwnGroups(Check check) {
        for (int split = 0; split <= 3; split++) {
            for (int e = 2; e <= 3; e++) {
                NestedCore core = taken(e);
                core.put(19, split);
                check.same("the level of " + e + " at split " + split, core.state(2), e - 4);
            }
            NestedCore hard = taken(3);
            hard.put(19, split);
            hard.pend(2, true);
            check.same("ALWAYS under HARD at split " + split, hard.state(3), 2);
        }
    }

    /** "the GROUP of a priority p is p >> split, its rest the lowest split bits". */
    private static void groupsBySplit(Check check) {
        for (int split = 0; split <= 3; split++) {
            for (int priority = 0; priority <= 7; priority++) {
                NestedCore core = new NestedCore();
                core.put(13, 1024);
                core.put(19, split);
                core.rank(15, priority, true);
                core.pend(15, true);
                core.run(1);
                check.same("the group of " + priority + " at split " + split, core.state(2), priority >> split);
            }
        }
    }

    /** "THE LEVEL is the least of: 8". */
    private static void levelOfNothing(Check check) {
        NestedCore core = new NestedCore();
        for (int split = 0; split <= 3; split++) {
            core.put(19, split);
            check.same("the level of nothing at split " + split, core.state(2), 8);
        }
        core.rank(10, 7, true);
        core.pend(10, true);
        check.same("the pending do not count", core.state(2), 8);
        check.same("7 is below 8", core.state(3), 10);
    }

    /** "the groups of all active exceptions": not that of the number alone, nor of the enabled alone. */
    private static void levelOfTheActive(Check check) {
        NestedCore core = new NestedCore();
        core.put(13, 1024);
        core.rank(10, 6, true);
        core.rank(11, 2, true);
        core.pend(10, true);
        core.run(1);
        core.pend(11, true);
        core.run(1);
        check.same("the level with two active", core.state(2), 2);
        core.rank(11, 7, true);
        check.same("the level by that which was left", core.state(2), 6);
        core.rank(10, 6, false);
        check.same("one that is not enabled counts", core.state(2), 6);
        core.rank(10, 0, false);
        check.same("the least of them", core.state(2), 0);
    }

    /** "the group of FLOOR, if that is not 0". */
    private static void levelOfFloorIfNotZero(Check check) {
        NestedCore core = new NestedCore();
        for (int split = 0; split <= 3; split++) {
            core.put(19, split);
            for (int floor = 0; floor <= 7; floor++) {
                core.put(18, floor);
                check.same("FLOOR " + floor + " at split " + split, core.state(2), floor == 0 ? 8 : floor >> split);
            }
        }
        NestedCore active = new NestedCore();
        active.put(13, 1024);
        active.rank(10, 3, true);
        active.pend(10, true);
        active.run(1);
        active.put(18, 4);
        check.same("FLOOR above an active one", active.state(2), 3);
        active.put(18, 2);
        check.same("FLOOR below an active one", active.state(2), 2);
    }

    /** "0 if MASK is on". */
    private static void levelOfMask(Check check) {
        NestedCore core = new NestedCore();
        core.put(16, 1);
        core.put(18, 1);
        check.same("MASK below FLOOR", core.state(2), 0);
        core.rank(10, 0, true);
        core.pend(10, true);
        check.same("a priority 0 under MASK", core.state(3), 0);
        core.pend(3, true);
        check.same("HARD under MASK", core.state(3), 3);
        NestedCore hard = taken(3);
        hard.put(16, 1);
        check.same("MASK does not lift the level", hard.state(2), -1);
    }

    /** "-1 if FAULTS is on". */
    private static void levelOfFaults(Check check) {
        NestedCore core = new NestedCore();
        core.put(16, 1);
        core.put(17, 1);
        check.same("FAULTS below MASK", core.state(2), -1);
        core.pend(3, true);
        check.same("HARD under FAULTS", core.state(3), 0);
        core.pend(2, true);
        check.same("ALWAYS under FAULTS", core.state(3), 2);
        NestedCore always = taken(2);
        always.put(17, 1);
        check.same("FAULTS does not lift the level", always.state(2), -2);
    }

    private static int nextOf(int split, int... priorities) {
        NestedCore core = new NestedCore();
        core.put(19, split);
        for (int i = 0; i < priorities.length; i++) {
            core.rank(15 - i, priorities[i], true);
            core.pend(15 - i, true);
        }
        return core.state(3);
    }

    /** "the least group, of these the least rest, of these the least number". */
    private static void leastGroupThenRestThenNumber(Check check) {
        for (int split = 0; split <= 3; split++) {
            check.same("the least group at split " + split, nextOf(split, 0, 7), 15);
            check.same("the least rest at split " + split, nextOf(split, 6, 7), 15);
            check.same("the least number at split " + split, nextOf(split, 5, 5, 5), 13);
            check.same("rest before number at split " + split, nextOf(split, 3, 2, 3), 14);
            check.same("group before rest at split " + split, nextOf(split, 3, 4), 15);
        }
    }

    private static int dueUnder(int split, int active, int pending) {
        NestedCore core = new NestedCore();
        core.put(13, 1024);
        core.put(19, split);
        core.rank(10, active, true);
        core.rank(11, pending, true);
        core.pend(10, true);
        core.run(1);
        core.pend(11, true);
        return core.state(3);
    }

    /** "it is DUE if its group is below the level": a lesser rest alone does not nest. */
    private static void dueBelowTheLevelAlone(Check check) {
        for (int split = 0; split <= 3; split++) {
            for (int active = 0; active <= 7; active++) {
                for (int pending = 0; pending <= 7; pending++) {
                    int due = pending >> split < active >> split ? 11 : 0;
                    String what = pending + " under " + active + " at split " + split;
                    check.same(what, dueUnder(split, active, pending), due);
                }
            }
        }
    }

    /** "that of the pending and enabled ones": one that is barred from it does not hide the others. */
    private static void pendingAndEnabledOnes(Check check) {
        NestedCore core = new NestedCore();
        core.rank(4, 0, false);
        core.pend(4, true);
        core.rank(5, 1, true);
        core.rank(15, 7, true);
        core.pend(15, true);
        check.same("15 alone is pending and enabled", core.state(3), 15);
        core.pend(5, true);
        check.same("5 too", core.state(3), 5);
        core.rank(4, 0, true);
        check.same("4 too", core.state(3), 4);
    }

    /** Whether a read (right below 1), a write (below 2) or an instruction is barred, by the faults. */
    private static boolean barred(NestedCore core, int half, int pc, int address) {
        core.rank(4, 0, true);
        core.put(0, address);
        core.put(15, pc);
        if (half != 0) {
            Code.write(core, pc, half);
        }
        core.run(1);
        boolean answer = core.state(20) == 5;
        core.pend(4, false);
        return answer;
    }

    private static void read(Check check, String what, NestedCore core, int address, boolean due) {
        boolean got = barred(core, Code.load(1, 0, 0), Code.START, address);
        check.same(what + ": a read at " + address + " is barred", got ? 1 : 0, due ? 1 : 0);
    }

    private static void write(Check check, String what, NestedCore core, int address, boolean due) {
        boolean got = barred(core, Code.store(1, 0, 0), Code.START, address);
        check.same(what + ": a write at " + address + " is barred", got ? 1 : 0, due ? 1 : 0);
    }

    private static void instruction(Check check, String what, NestedCore core, int address, boolean due) {
        boolean got = barred(core, 0, address, 0);
        check.same(what + ": an instruction at " + address + " is barred", got ? 1 : 0, due ? 1 : 0);
    }

    /** "from an address on, so many bytes, with a RIGHT: 0 nothing, 1 reads, 2 all; and perhaps NEVER". */
    private static void fromAnAddressOnSoManyBytes(Check check) {
        for (int right = 0; right <= 2; right++) {
            for (int never = 0; never <= 1; never++) {
                NestedCore core = new NestedCore();
                core.area(1, 600, 8, right, never == 1);
                String what = "right " + right + ", never " + never;
                for (int address = 596; address <= 608; address += 4) {
                    boolean inside = address >= 600 && address < 608;
                    read(check, what, core, address, inside && right < 1);
                    write(check, what, core, address, inside && right < 2);
                    core.set(address, 0);
                }
                for (int address = 596; address <= 610; address += 2) {
                    boolean inside = address >= 600 && address < 608;
                    instruction(check, what, core, address, inside && (right < 1 || never == 1));
                }
            }
        }
    }

    /** "the highest area that has its first byte counts": even if it allows more or less. */
    private static void highestAreaCounts(Check check) {
        for (int high = 1; high <= 3; high++) {
            for (int low = 0; low < high; low++) {
                NestedCore core = new NestedCore();
                core.area(low, 600, 8, 0, true);
                core.area(high, 604, 8, 2, false);
                String what = high + " over " + low;
                write(check, what, core, 600, true);
                write(check, what, core, 604, false);
                write(check, what, core, 608, false);
                instruction(check, what, core, 602, true);
                instruction(check, what, core, 604, false);
                core.area(low, 600, 8, 2, false);
                core.area(high, 604, 8, 1, true);
                write(check, what, core, 600, false);
                write(check, what, core, 604, true);
                instruction(check, what, core, 602, false);
                instruction(check, what, core, 604, true);
            }
        }
    }

    /** "without any all is right". */
    private static void withoutAnyAreaAllIsRight(Check check) {
        NestedCore core = new NestedCore();
        core.area(0, 4, 4, 0, true);
        core.area(3, 1016, 4, 0, true);
        int[] addresses = {0, 8, 1012, 1020};
        for (int address : addresses) {
            read(check, "outside", core, address, false);
            write(check, "outside", core, address, false);
            core.set(address, 0);
            instruction(check, "outside", core, address, false);
            instruction(check, "outside", core, address + 2, false);
        }
        read(check, "inside", core, 4, true);
        read(check, "inside", core, 1016, true);
    }

    /** "For a word, half or instruction ... that has its first byte". */
    private static void firstByteCounts(Check check) {
        for (int at = 597; at <= 605; at++) {
            NestedCore core = new NestedCore();
            core.area(0, at, 1, 0, false);
            read(check, "byte " + at, core, 600, at == 600);
            write(check, "byte " + at, core, 600, at == 600);
            core.set(600, 0);
            instruction(check, "byte " + at, core, 600, at == 600);
            instruction(check, "byte " + at, core, 602, at == 602);
        }
    }

    private static int faultOf(NestedCore core) {
        core.rank(4, 0, true);
        core.rank(5, 0, true);
        core.run(1);
        return core.state(3);
    }

    /** "BUS is looked at before AREA; the two that move several registers look at all their words first". */
    private static void allWordsForBusThenForArea(Check check) {
        int[][] rows = {{1008, 0}, {1012, 0}, {1016, 5}, {1020, 5}, {-4, 5}, {-8, 5}, {0, 0}, {1010, 5}};
        for (int[] row : rows) {
            NestedCore pop = Code.core(Code.pop(7));
            pop.put(13, row[0]);
            check.same("a pop from " + row[0], faultOf(pop), row[1]);
            NestedCore push = Code.core(Code.push(7));
            push.put(13, row[0] + 12);
            check.same("a push to " + row[0], faultOf(push), row[1]);
            NestedCore barredPop = Code.core(Code.pop(7));
            barredPop.put(13, row[0]);
            barAllButTheCode(barredPop);
            check.same("a barred pop from " + row[0], faultOf(barredPop), row[1] == 0 ? 4 : 5);
            NestedCore barredPush = Code.core(Code.push(7));
            barredPush.put(13, row[0] + 12);
            barAllButTheCode(barredPush);
            check.same("a barred push to " + row[0], faultOf(barredPush), row[1] == 0 ? 4 : 5);
        }
        NestedCore crooked = Code.core(Code.load(1, 0, 0));
        crooked.put(0, 602);
        barAllButTheCode(crooked);
        check.same("a barred place that is not divided by 4", faultOf(crooked), 5);
    }

    private static void barAllButTheCode(NestedCore core) {
        core.area(0, 0, 1024, 0, true);
        core.area(1, Code.START, 4, 1, false);
    }
}
