/** Promises 6 and 7: rank and pend; and what is next and due by them. */
public final class RanksTest {
    public static void main(String[] args) {
        Check check = new Check();
        enabledOrNot(check);
        pendingOrNot(check);
        othersAreRefused(check);
        leastPriorityThenLeastNumber(check);
        theDisabledAreNeverNext(check);
        groupsAndRests(check);
        whatMakesTheLevel(check);
        rankCountsForTheActive(check);
        check.end();
    }

    private static void enabledOrNot(Check check) {
        NestedCore core = new NestedCore();
        for (int e = 4; e <= 15; e++) {
            boolean always = e >= 7 && e <= 9;
            core.rank(e, 3, true);
            check.same("exception " + e + " enabled", core.state(16 + e), 4);
            core.rank(e, 3, false);
            check.same("exception " + e + " not enabled", core.state(16 + e), always ? 4 : 0);
        }
    }

    private static void pendingOrNot(Check check) {
        NestedCore core = new NestedCore();
        for (int e = 2; e <= 15; e++) {
            int before = core.state(16 + e);
            core.pend(e, true);
            core.pend(e, true);
            check.same("exception " + e + " pending", core.state(16 + e), before + 1);
            core.pend(e, false);
            check.same("exception " + e + " no more pending", core.state(16 + e), before);
        }
        check.same("none is due", core.state(3), 0);
    }

    private static void othersAreRefused(Check check) {
        NestedCore core = new NestedCore();
        int[] none = {-1, 0, 1, 16, 17, 31, Integer.MIN_VALUE, Integer.MAX_VALUE};
        for (int e : none) {
            check.refused("pend(" + e + ", true)", () -> core.pend(e, true));
            check.refused("rank(" + e + ", 1, true)", () -> core.rank(e, 1, true));
        }
        check.refused("rank(2, 1, true)", () -> core.rank(2, 1, true));
        check.refused("rank(3, 1, true)", () -> core.rank(3, 1, true));
        int[] priorities = {-2, -1, 8, 9, Integer.MIN_VALUE, Integer.MAX_VALUE};
        for (int priority : priorities) {
            check.refused("rank(10, " + priority + ", true)", () -> core.rank(10, priority, true));
        }
        check.same("10 after what was refused", core.state(26), 0);
    }

    private static NestedCore linesPending(int... priorities) {
        NestedCore core = new NestedCore();
        for (int i = 0; i < priorities.length; i++) {
            core.rank(10 + i, priorities[i], true);
            core.pend(10 + i, true);
        }
        return core;
    }

    private static void leastPriorityThenLeastNumber(Check check) {
        check.same("due of 5, 2, 6", linesPending(5, 2, 6).state(3), 11);
        check.same("due of 5, 7, 5", linesPending(5, 7, 5).state(3), 10);
        check.same("due of 7", linesPending(7).state(3), 10);
        NestedCore core = linesPending(0, 0);
        core.pend(3, true);
        check.same("HARD before the lines", core.state(3), 3);
        core.pend(2, true);
        check.same("ALWAYS before HARD", core.state(3), 2);
        core.pend(2, false);
        core.pend(3, false);
        core.pend(8, true);
        check.same("LATER before the lines of its priority", core.state(3), 8);
    }

    private static void theDisabledAreNeverNext(Check check) {
        NestedCore core = linesPending(1, 2);
        core.rank(10, 1, false);
        check.same("due with 10 disabled", core.state(3), 11);
        core.rank(11, 2, false);
        check.same("due with both disabled", core.state(3), 0);
        core.rank(10, 1, true);
        check.same("due with 10 enabled anew", core.state(3), 10);
    }

    private static void groupsAndRests(Check check) {
        NestedCore core = linesPending(5, 4, 6);
        for (int split = 0; split <= 3; split++) {
            core.put(19, split);
            check.same("due at split " + split, core.state(3), 11);
        }
        core.put(18, 7);
        int[] due = {11, 11, 0, 0};
        int[] levels = {7, 3, 1, 0};
        for (int split = 0; split <= 3; split++) {
            core.put(19, split);
            check.same("level under floor 7 at split " + split, core.state(2), levels[split]);
            check.same("due under floor 7 at split " + split, core.state(3), due[split]);
        }
    }

    private static void whatMakesTheLevel(Check check) {
        NestedCore core = linesPending(3);
        core.put(18, 3);
        check.same("a group that is the level is not due", core.state(3), 0);
        core.put(18, 4);
        check.same("a group below the level is due", core.state(3), 10);
        core.put(18, 1);
        core.put(19, 1);
        check.same("a floor that is not 0 counts though its group is 0", core.state(2), 0);
        core.put(18, 0);
        check.same("a floor 0 does not count", core.state(2), 8);
        core.put(16, 1);
        check.same("under MASK", core.state(3), 0);
        core.pend(3, true);
        check.same("HARD under MASK", core.state(3), 3);
        core.put(17, 1);
        check.same("HARD under FAULTS", core.state(3), 0);
        core.pend(2, true);
        check.same("HARD is before the others, ALWAYS before HARD", core.state(3), 2);
        core.put(19, 3);
        check.same("-2 is its own group at split 3", core.state(3), 2);
        core.put(13, 1024);
        core.run(1);
        check.same("the level while ALWAYS is active", core.state(2), -2);
        core.put(17, 0);
        core.put(16, 0);
        check.same("the level while ALWAYS is active, at split 3", core.state(2), -2);
        check.same("HARD while ALWAYS is active", core.state(3), 0);
    }

    private static void rankCountsForTheActive(Check check) {
        NestedCore core = linesPending(3, 5);
        core.put(13, 1024);
        core.run(1);
        check.same("the level while 10 is active", core.state(2), 3);
        check.same("none due", core.state(3), 0);
        core.rank(10, 6, false);
        check.same("the level with 10 ranked anew", core.state(2), 6);
        check.same("11 due", core.state(3), 11);
    }
}
