/** Promises 14 to 17, sentence by sentence: where, there, soonest, start. */
final class DriveEdges extends Edges {
    private static final String DRIVE = "A DRIVE from MINUTE a on: one is in CELL 0 in MINUTE a, goes in each MINUTE as many CELLS "
            + "as the LIMIT where one is (47 at most)";

    /** Seen in her cell alone, 1 high; she walks a cell a minute from a cell on. */
    private static SmallestSpeed walkerFrom(int cell) {
        SmallestSpeed x = road(0, 0);
        x.child(0, 1, cell, 1, 60);
        return x;
    }

    /** 1 high, seen from cells 0 to 10, till a minute. */
    private static SmallestSpeed slowTill(int bed) {
        SmallestSpeed x = road(10, 0);
        x.child(0, 1, 0, 0, bed);
        return x;
    }

    // ---- 14: where

    @Edge(promise = 14, says = {"MINUTES 0 .. 59", "BAD: m 0 .. 60"})
    static void p14_where_a0To59() {
        taken(x -> x.where(0, 60), 47);
        taken(x -> x.where(59, 60), 9);
        beyond(0, 59, BAD, (x, n) -> x.where(n, 60));
        beyond(0, 59, BAD, (x, n) -> x.where(n, 0));
    }

    @Edge(promise = 14, says = "BAD: m 0 .. 60")
    static void p14_where_m0To60() {
        taken(x -> x.where(0, 0), 0);
        taken(x -> x.where(0, 60), 47);
        beyond(0, 60, BAD, (x, n) -> x.where(0, n));
        beyond(0, 60, BAD, (x, n) -> x.where(59, n));
    }

    @Edge(promise = 14, says = {"WHERE one is in MINUTE m (none: ahead of a)", "NONE"})
    static void p14_where_noneAheadOfA() {
        int[] starts = {1, 2, 30, 59};
        for (int a : starts) {
            taken(SmallestSpeed::new, x -> x.where(a, a - 1), NONE);
            taken(SmallestSpeed::new, x -> x.where(a, 0), NONE);
            taken(SmallestSpeed::new, x -> x.where(a, a), 0);
            taken(SmallestSpeed::new, x -> x.where(a, a + 1), 9);
        }
        taken(SmallestSpeed::new, x -> x.where(0, 0), 0);
    }

    @Edge(promise = 14, says = {"WHERE", DRIVE})
    static void p14_where_cell47AtMost() {
        SmallestSpeed free = new SmallestSpeed();
        int[] wants = {0, 9, 18, 27, 36, 45, 47, 47, 47};
        for (int i = 0; i < wants.length; i++) {
            due("after " + i, free.where(0, i), wants[i]);
            due("after " + i + " from 50 on", free.where(50, 50 + i), wants[i]);
        }
        due("in the last minute", free.where(0, 60), 47);
        SmallestSpeed two = slow(2);
        due("46", two.where(0, 23), 46);
        due("not 48", two.where(0, 24), 47);
        due("nor 49", two.where(0, 25), 47);
        SmallestSpeed one = slow(1);
        due("46", one.where(0, 46), 46);
        due("47", one.where(0, 47), 47);
        due("not 48", one.where(0, 48), 47);
    }

    @Edge(promise = 14, says = DRIVE)
    static void p14_where_byTheLimitOfThatCellAndMinute() {
        SmallestSpeed x = slowTill(5);
        due("four slow minutes", x.where(0, 4), 4);
        due("five slow minutes", x.where(0, 5), 5);
        due("then free", x.where(0, 6), 14);
        due("one slow minute", x.where(4, 5), 1);
        due("free at once", x.where(5, 6), 9);
        SmallestSpeed y = slowTill(60);
        due("eleven slow cells", y.where(0, 11), 11);
        due("free behind them", y.where(0, 12), 20);
    }

    @Edge(promise = 14, says = "(Nothing is changed by these.)")
    static void p14_where_nothingIsChanged() {
        changesNothing(x -> x.where(3, 40));
        changesNothing(x -> x.where(3, 2));
    }

    // ---- 15: there

    @Edge(promise = 15, says = {"MINUTES 0 .. 59", "BAD"})
    static void p15_there_a0To59() {
        taken(SmallestSpeed::new, x -> x.there(0), 6);
        taken(SmallestSpeed::new, x -> x.there(59), NONE);
        beyond(0, 59, BAD, (x, n) -> x.there(n));
    }

    @Edge(promise = 15, says = {"THERE: the first MINUTE (60 at most) in which one is in CELL 47; none", "NONE"})
    static void p15_there_60AtMost() {
        int[] heights = {1, 2, 3, 4, 5, 6, 7, 8, 9};
        int[] minutes = {47, 24, 16, 12, 10, 8, 7, 6, 6};
        for (int i = 0; i < heights.length; i++) {
            SmallestSpeed x = slow(heights[i]);
            int last = 60 - minutes[i];
            due("from 0 on, " + heights[i] + " cells a minute", x.there(0), minutes[i]);
            due("the last one there", x.there(last), 60);
            due("the first one not there", x.there(last + 1), NONE);
            due("where", x.where(last + 1, 60), Math.min(46, heights[i] * (minutes[i] - 1)));
        }
        taken(SmallestSpeed::new, x -> x.there(54), 60);
        taken(SmallestSpeed::new, x -> x.there(55), NONE);
        taken(SmallestSpeed::new, x -> x.there(59), NONE);
    }

    @Edge(promise = 15, says = "THERE: the first MINUTE (60 at most) in which one is in CELL 47; none")
    static void p15_there_theFirstMinuteInCell47() {
        SmallestSpeed x = slow(2);
        due("not in 46", x.where(0, x.there(0) - 1), 46);
        due("in 47", x.where(0, x.there(0)), 47);
        SmallestSpeed y = slowTill(5);
        due("5 slow minutes, 42 cells in 5", y.there(0), 10);
        due("4 slow minutes, 43 cells in 5", y.there(1), 10);
        due("1 slow minute, 46 cells in 6", y.there(4), 11);
        due("free", y.there(5), 11);
    }

    @Edge(promise = 15, says = "(Nothing is changed by these.)")
    static void p15_there_nothingIsChanged() {
        changesNothing(x -> x.there(3));
        changesNothing(x -> x.there(59));
    }

    // ---- 16: soonest

    @Edge(promise = 16, says = {"MINUTES 0 .. 59", "BAD"})
    static void p16_soonest_a0To59() {
        taken(SmallestSpeed::new, x -> x.soonest(0), 6);
        taken(SmallestSpeed::new, x -> x.soonest(59), NONE);
        beyond(0, 59, BAD, (x, n) -> x.soonest(n));
    }

    @Edge(promise = 16, says = {"the first MINUTE (60 at most) in which one can be in CELL 47; none", "NONE"})
    static void p16_soonest_60AtMost() {
        int[] heights = {1, 2, 3, 4, 5, 6, 7, 8, 9};
        int[] minutes = {47, 24, 16, 12, 10, 8, 7, 6, 6};
        for (int i = 0; i < heights.length; i++) {
            SmallestSpeed x = slow(heights[i]);
            int last = 60 - minutes[i];
            due("from 0 on, " + heights[i] + " cells a minute", x.soonest(0), minutes[i]);
            due("the last one there", x.soonest(last), 60);
            due("the first one not there", x.soonest(last + 1), NONE);
        }
        taken(SmallestSpeed::new, x -> x.soonest(54), 60);
        taken(SmallestSpeed::new, x -> x.soonest(55), NONE);
        taken(SmallestSpeed::new, x -> x.soonest(59), NONE);
    }

    @Edge(promise = 16, says = "SOONEST from MINUTE a on: one may go in each MINUTE any number of CELLS up to the LIMIT (none, too)")
    static void p16_soonest_anyNumberUpToTheLimit() {
        due("a drive goes beside her", walkerFrom(8).there(0), 39);
        due("8 cells first, so not beside her", walkerFrom(8).soonest(0), 6);
        SmallestSpeed x = road(0, 0);
        x.child(0, 1, 9, 0, 60);
        x.child(0, 1, 8, 0, 60);
        due("a drive goes into 9", x.there(0), 7);
        due("7 cells first", x.soonest(0), 6);
        x.child(0, 1, 16, 0, 60);
        due("7 and 8 cells first", x.soonest(0), 6);
    }

    @Edge(promise = 16, says = "SOONEST from MINUTE a on: one may go in each MINUTE any number of CELLS up to the LIMIT (none, too)")
    static void p16_soonest_noneToo() {
        due("a drive goes beside her", walkerFrom(0).there(0), 47);
        due("who waits a minute is free", walkerFrom(0).soonest(0), 7);
        due("who starts behind her is free", walkerFrom(0).soonest(1), 7);
        due("the last one there", walkerFrom(0).soonest(54), 60);
    }

    @Edge(promise = 16, says = "SOONEST from MINUTE a on: one may go in each MINUTE any number of CELLS up to the LIMIT (none, too)")
    static void p16_soonest_notMoreThanTheLimit() {
        SmallestSpeed x = slowTill(60);
        due("eleven slow cells", x.soonest(0), 15);
        due("5 slow minutes", slowTill(5).soonest(0), 10);
        SmallestSpeed y = road(0, 0);
        for (int i = 0; i < 6; i++) {
            y.child(0, 1, 9 + i, 0, 60);
        }
        due("6 slow cells, 8 cells ahead of them are passed in one minute", y.soonest(0), 6);
        y.sight(3);
        due("12 slow cells, 5 cells first, then 9 of which 8 are slow", y.soonest(0), 10);
    }

    @Edge(promise = 16, says = "(Nothing is changed by these.)")
    static void p16_soonest_nothingIsChanged() {
        changesNothing(x -> x.soonest(3));
        changesNothing(x -> x.soonest(59));
    }

    // ---- 17: start

    @Edge(promise = 17, says = {"MINUTES 0 .. 59", "BAD"})
    static void p17_start_a0To59() {
        taken(SmallestSpeed::new, x -> x.start(0), 0);
        taken(SmallestSpeed::new, x -> x.start(59), NONE);
        beyond(0, 59, BAD, (x, n) -> x.start(n));
    }

    @Edge(promise = 17, says = {"the MINUTE from which a DRIVE is THERE first; of like ones the last; none", "NONE"})
    static void p17_start_none() {
        taken(SmallestSpeed::new, x -> x.start(54), 54);
        taken(SmallestSpeed::new, x -> x.start(55), NONE);
        taken(SmallestSpeed::new, x -> x.start(59), NONE);
        due("the last one there", slow(1).start(13), 13);
        due("none", slow(1).start(14), NONE);
        SmallestSpeed x = road(47, 0);
        x.child(0, 1, 0, 0, 54);
        due("she is in bed in minute 54", x.there(53), 60);
        due("53 and 54 are alike", x.start(53), 54);
        due("the last one there", x.start(54), 54);
        due("too late then", x.start(55), NONE);
    }

    @Edge(promise = 17, says = "START no earlier than a")
    static void p17_start_noEarlierThanA() {
        SmallestSpeed free = new SmallestSpeed();
        for (int a = 0; a <= 54; a++) {
            due("at once", free.start(a), a);
        }
        due("from 1 on one is there as soon as from 0", walkerFrom(0).start(0), 1);
        due("1 is not ahead of a", walkerFrom(0).start(1), 1);
        due("1 is ahead of a", walkerFrom(0).start(2), 2);
    }

    @Edge(promise = 17, says = "the MINUTE from which a DRIVE is THERE first; of like ones the last; none")
    static void p17_start_ofLikeOnesTheLast() {
        SmallestSpeed x = slowTill(5);
        int[] ends = {10, 10, 10, 10, 11, 11, 12};
        for (int a = 0; a < ends.length; a++) {
            due("there(" + a + ")", x.there(a), ends[a]);
        }
        due("0 to 3 are alike", x.start(0), 3);
        due("1 to 3 are alike", x.start(1), 3);
        due("3 alone", x.start(3), 3);
        due("4 and 5 are alike", x.start(4), 5);
        due("5 alone", x.start(5), 5);
    }

    @Edge(promise = 17, says = "the MINUTE from which a DRIVE is THERE first; of like ones the last; none")
    static void p17_start_thereFirst() {
        due("39 from 0, 7 from 1", walkerFrom(8).start(0), 1);
        due("47 from 0, 7 from 1", walkerFrom(0).start(0), 1);
        SmallestSpeed x = road(47, 0);
        x.child(0, 1, 0, 0, 40);
        due("from 0 in 41, 40 cells slowly", x.there(0), 41);
        due("from 2 in 41, 38 cells slowly", x.start(0), 2);
        due("from 3 in 42, 37 cells slowly", x.there(3), 42);
        due("from 11 in 42, 29 cells slowly", x.start(3), 11);
    }

    @Edge(promise = 17, says = "(Nothing is changed by these.)")
    static void p17_start_nothingIsChanged() {
        changesNothing(x -> x.start(3));
        changesNothing(x -> x.start(59));
    }
}
