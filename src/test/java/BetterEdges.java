import java.util.function.Supplier;

/** Promises 21 to 23, sentence by sentence: whom to send to bed, where to stand, two carters. */
final class BetterEdges extends Edges {
    private static final String TO_BED = "TO BED: the CHILDREN (bits, h at most, 0 .. 6) that had better be in bed, so that SOONEST "
            + "from a is least; of like ones fewer, then the least bits: which, SOONEST then (61: none)";
    private static final String MOVE = "MOVE: the CHILD and the CELL (100 the CHILD and the CELL) where it should be told to be at "
            + "first, so that a DRIVE from a is THERE soonest; of like ones the first; none: not sooner than it is (none THERE: 61)";
    private static final String SECOND = "the other one, if no more than 2 MINUTES later, too, but is THERE 4 MINUTES later";
    private static final String GETS = "each gets 100 less the MINUTE in which one is THERE (none: 0)";
    private static final String REST = "pairs that rest (neither gets more by another MINUTE): how many, the first (10 the one's and the "
            + "other's, less a)";

    private static SmallestSpeed standing(int sight, int law, int... heightsAndCells) {
        SmallestSpeed x = road(sight, law);
        for (int i = 0; i + 1 < heightsAndCells.length; i += 2) {
            x.child(0, heightsAndCells[i], heightsAndCells[i + 1], 0, 60);
        }
        return x;
    }

    private static void bedded(SmallestSpeed x, int a, int h, int which, int soonest) {
        due("toBed(" + a + ", " + h + ", 0)", x.toBed(a, h, 0), which);
        due("toBed(" + a + ", " + h + ", 1)", x.toBed(a, h, 1), soonest);
    }

    private static void ends(SmallestSpeed x, int a, int... wants) {
        for (int i = 0; i < wants.length; i++) {
            due("there(" + (a + i) + ")", x.there(a + i), wants[i]);
        }
    }

    private static void pairs(SmallestSpeed x, int a, int many, int first) {
        due("carters(" + a + ", 0)", x.carters(a, 0), many);
        due("carters(" + a + ", 1)", x.carters(a, 1), first);
    }

    // ---- 21: toBed

    @Edge(promise = 21, says = {"MINUTES 0 .. 59", "BAD"})
    static void p21_toBed_a0To59() {
        taken(SmallestSpeed::new, x -> x.toBed(0, 6, 1), 6);
        taken(SmallestSpeed::new, x -> x.toBed(59, 6, 1), 61);
        beyond(0, 59, BAD, (x, n) -> x.toBed(n, 6, 0));
        beyond(0, 59, BAD, (x, n) -> x.toBed(n, 6, 1));
    }

    @Edge(promise = 21, says = {"bits, h at most, 0 .. 6", "BAD"})
    static void p21_toBed_h0To6() {
        Supplier<SmallestSpeed> one = () -> slow(1);
        taken(one, x -> x.toBed(0, 0, 0), 0);
        taken(one, x -> x.toBed(0, 6, 0), 1);
        beyond(0, 6, BAD, (x, n) -> x.toBed(0, n, 0));
        beyond(SmallestSpeed::new, 0, 6, BAD, (x, n) -> x.toBed(0, n, 1));
    }

    @Edge(promise = 21, says = {"TO BED: which (0; bits), SOONEST (1)", "BAD"})
    static void p21_toBed_what0And1() {
        Supplier<SmallestSpeed> one = () -> slow(1);
        taken(one, x -> x.toBed(0, 1, 0), 1);
        taken(one, x -> x.toBed(0, 1, 1), 6);
        beyond(0, 1, BAD, (x, n) -> x.toBed(0, 1, n));
    }

    @Edge(promise = 21, says = "(Nothing is changed by these.)")
    static void p21_toBed_nothingIsChanged() {
        changesNothing(x -> x.toBed(0, 6, 0));
        changesNothing(x -> x.toBed(0, 6, 1));
        changesNothing(x -> x.toBed(59, 0, 1));
    }

    @Edge(promise = 21, says = TO_BED)
    static void p21_toBed_nobodyThere() {
        bedded(new SmallestSpeed(), 0, 0, 0, 6);
        bedded(new SmallestSpeed(), 0, 6, 0, 6);
        bedded(new SmallestSpeed(), 54, 6, 0, 60);
        bedded(new SmallestSpeed(), 55, 6, 0, 61);
    }

    @Edge(promise = 21, says = "bits, h at most, 0 .. 6")
    static void p21_toBed_hAtMost() {
        SmallestSpeed x = standing(47, 1, 1, 0, 2, 0, 3, 0, 4, 0, 5, 0, 6, 0);
        int[] which = {0, 1, 3, 7, 15, 31, 63};
        int[] soonest = {47, 24, 16, 12, 10, 8, 6};
        for (int h = 0; h <= 6; h++) {
            bedded(x, 0, h, which[h], soonest[h]);
        }
        SmallestSpeed y = standing(47, 1, 6, 0, 5, 0, 4, 0, 3, 0, 2, 0, 1, 0);
        int[] others = {0, 32, 48, 56, 60, 62, 63};
        for (int h = 0; h <= 6; h++) {
            bedded(y, 0, h, others[h], soonest[h]);
        }
    }

    @Edge(promise = 21, says = TO_BED)
    static void p21_toBed_ofLikeOnesFewer() {
        SmallestSpeed x = standing(10, 0, 4, 15, 4, 18, 3, 0);
        bedded(x, 0, 0, 0, 10);
        bedded(x, 0, 1, 4, 8);
        bedded(x, 0, 2, 4, 8);
        bedded(x, 0, 3, 7, 6);
        bedded(x, 0, 6, 7, 6);
        bedded(standing(47, 0, 9, 0, 9, 20), 0, 6, 0, 6);
        SmallestSpeed asleep = road(47, 0);
        asleep.child(0, 1, 0, 0, 0);
        bedded(asleep, 0, 6, 0, 6);
    }

    @Edge(promise = 21, says = TO_BED)
    static void p21_toBed_thenTheLeastBits() {
        SmallestSpeed x = standing(47, 2, 1, 0, 1, 0, 9, 0);
        bedded(x, 0, 0, 0, 47);
        bedded(x, 0, 1, 1, 10);
        bedded(x, 0, 2, 3, 6);
        bedded(x, 0, 3, 3, 6);
        SmallestSpeed y = standing(47, 2, 9, 0, 1, 0, 1, 0);
        bedded(y, 0, 1, 2, 10);
        bedded(y, 0, 2, 6, 6);
    }

    @Edge(promise = 21, says = "SOONEST then (61: none)")
    static void p21_toBed_61None() {
        bedded(slow(1), 13, 0, 0, 60);
        bedded(slow(1), 14, 0, 0, 61);
        bedded(slow(1), 54, 1, 1, 60);
        bedded(slow(1), 55, 1, 0, 61);
        bedded(slow(1), 59, 6, 0, 61);
    }

    @Edge(promise = 21, says = TO_BED)
    static void p21_toBed_bySoonestNotByADrive() {
        SmallestSpeed x = standing(0, 0, 1, 9);
        due("a drive goes into 9", x.there(0), 7);
        bedded(x, 0, 6, 0, 6);
    }

    // ---- 22: move

    @Edge(promise = 22, says = {"MINUTES 0 .. 59", "BAD"})
    static void p22_move_a0To59() {
        Supplier<SmallestSpeed> one = () -> standing(0, 0, 1, 0);
        taken(one, x -> x.move(0), 1);
        taken(one, x -> x.move(59), NONE);
        beyond(0, 59, BAD, (x, n) -> x.move(n));
        beyond(SmallestSpeed::new, 0, 59, BAD, (x, n) -> x.move(n));
    }

    @Edge(promise = 22, says = "(Nothing is changed by these.)")
    static void p22_move_nothingIsChanged() {
        changesNothing(x -> x.move(0));
        changesNothing(x -> x.move(53));
        changesNothing(() -> slow(1), x -> x.move(0));
        changesNothing(() -> standing(10, 0, 1, 0), x -> x.move(0));
    }

    @Edge(promise = 22, says = "100 the CHILD and the CELL")
    static void p22_move_100TheChildAndTheCell() {
        SmallestSpeed first = standing(10, 0, 1, 0);
        due("0 to the last cell", first.move(0), 47);
        SmallestSpeed sixth = road(10, 0);
        for (int i = 0; i < 5; i++) {
            sixth.child(0, 1, 0, 0, 0);
        }
        sixth.child(0, 1, 0, 0, 60);
        due("5 to the last cell", sixth.move(0), 547);
        SmallestSpeed player = road(0, 0);
        player.child(2, 1, 9, 3, 60);
        due("in 9 as one comes", player.there(1), 8);
        due("0 to the first cell, so in 3 in minute 1", player.move(1), 0);
    }

    @Edge(promise = 22, says = MOVE)
    static void p22_move_ofLikeOnesTheFirstCell() {
        due("0 is as slow, 1 is not", standing(0, 0, 1, 9).move(0), 1);
        due("9 would be slow, 10 not", standing(0, 0, 1, 9).there(0), 7);
        SmallestSpeed x = standing(0, 0, 1, 0);
        due("1 is the first one free", x.move(0), 1);
    }

    @Edge(promise = 22, says = MOVE)
    static void p22_move_ofLikeOnesTheFirstChild() {
        SmallestSpeed x = standing(0, 1, 1, 18, 3, 10);
        due("into 18", x.there(0), 7);
        due("either helps", x.move(0), 1);
        SmallestSpeed y = standing(3, 1, 3, 17, 3, 0);
        due("as it is", y.there(0), 8);
        due("the second helps more", y.move(0), 104);
    }

    @Edge(promise = 22, says = {"none: not sooner than it is (none THERE: 61)", "NONE"})
    static void p22_move_noneNotSooner() {
        taken(SmallestSpeed::new, x -> x.move(0), NONE);
        due("9 high", standing(47, 0, 9, 5).move(0), NONE);
        due("seen anywhere", slow(1).move(0), NONE);
        due("one alone of two", standing(0, 0, 1, 9, 1, 9).move(0), NONE);
        due("where it is one is there first", standing(0, 0, 1, 1).move(0), NONE);
    }

    @Edge(promise = 22, says = {"none: not sooner than it is (none THERE: 61)", "NONE"})
    static void p22_move_noneThere61() {
        SmallestSpeed x = standing(10, 0, 1, 0);
        due("none there", x.there(46), NONE);
        due("but by a move, in 60", x.move(53), 47);
        due("nor by a move", x.move(54), NONE);
        due("nor by a move", x.move(59), NONE);
        due("nobody to move", new SmallestSpeed().move(55), NONE);
    }

    @Edge(promise = 22, says = MOVE)
    static void p22_move_whereItIsAtFirst() {
        SmallestSpeed x = road(0, 0);
        x.child(0, 1, 8, 1, 60);
        due("beside her", x.there(0), 39);
        due("to 1, from where she walks", x.move(0), 1);
        due("behind her", x.move(1), NONE);
    }

    // ---- 23: carters

    @Edge(promise = 23, says = {"CARTERS (a 0 .. 50): how many (0), the first (1; NONE)", "BAD: -10"})
    static void p23_carters_a0To50() {
        taken(SmallestSpeed::new, x -> x.carters(0, 0), 1);
        taken(SmallestSpeed::new, x -> x.carters(50, 0), 1);
        beyond(0, 50, MINUS_TEN, (x, n) -> x.carters(n, 0));
        beyond(0, 50, MINUS_TEN, (x, n) -> x.carters(n, 1));
    }

    @Edge(promise = 23, says = {"CARTERS (a 0 .. 50): how many (0), the first (1; NONE)", "BAD: -10"})
    static void p23_carters_what0And1() {
        taken(() -> slow(9), x -> x.carters(50, 0), 1);
        taken(() -> slow(9), x -> x.carters(50, 1), 0);
        beyond(0, 1, MINUS_TEN, (x, n) -> x.carters(0, n));
    }

    @Edge(promise = 23, says = "(Nothing is changed by these.)")
    static void p23_carters_nothingIsChanged() {
        changesNothing(x -> x.carters(0, 0));
        changesNothing(x -> x.carters(50, 1));
    }

    @Edge(promise = 23, says = "who starts first (in one MINUTE: both) goes as in a DRIVE")
    static void p23_carters_inOneMinuteBoth() {
        ends(new SmallestSpeed(), 0, 6, 7, 8, 9, 10, 11);
        pairs(new SmallestSpeed(), 0, 1, 0);
        SmallestSpeed x = road(0, 0);
        x.child(0, 1, 0, 0, 1);
        ends(x, 0, 7, 7, 8, 9, 10, 11);
        pairs(x, 0, 2, 0);
    }

    @Edge(promise = 23, says = {"CARTERS: two start, each in a MINUTE a to a and 5", SECOND})
    static void p23_carters_noMoreThan2MinutesLater() {
        SmallestSpeed two = road(0, 0);
        two.child(0, 1, 0, 1, 4);
        ends(two, 0, 9, 7, 8, 9, 10, 11);
        pairs(two, 0, 2, 0);
        SmallestSpeed three = road(0, 0);
        three.child(0, 1, 0, 1, 5);
        ends(three, 0, 10, 7, 8, 9, 10, 11);
        pairs(three, 0, 1, 11);
    }

    @Edge(promise = 23, says = SECOND)
    static void p23_carters_4MinutesLater() {
        SmallestSpeed asMuch = road(1, 0);
        asMuch.child(0, 2, 0, 2, 7);
        ends(asMuch, 0, 11, 7, 8, 11, 11, 11);
        pairs(asMuch, 0, 2, 0);
        SmallestSpeed less = road(2, 0);
        less.child(0, 1, 7, 1, 11);
        ends(less, 0, 15, 15, 15, 15, 10, 11);
        pairs(less, 0, 1, 44);
    }

    @Edge(promise = 23, says = GETS)
    static void p23_carters_none0() {
        SmallestSpeed x = slow(1);
        ends(x, 14, NONE, NONE, NONE, NONE, NONE, NONE);
        pairs(x, 14, 36, 0);
        pairs(x, 50, 36, 0);
        ends(x, 13, 60, NONE, NONE, NONE, NONE, NONE);
        pairs(x, 13, 1, 0);
        SmallestSpeed y = road(47, 0);
        y.child(0, 1, 0, 0, 60);
        y.child(0, 9, 0, 0, 60);
        pairs(y, 14, 36, 0);
    }

    @Edge(promise = 23, says = {"CARTERS: two start, each in a MINUTE a to a and 5", REST})
    static void p23_carters_aToAAnd5() {
        SmallestSpeed slowTill6 = road(0, 0);
        for (int i = 0; i < 6; i++) {
            slowTill6.child(0, 1, 8 - i, 1, 60);
        }
        ends(slowTill6, 0, 39, 40, 41, 42, 43, 44, 12);
        pairs(slowTill6, 0, 1, 0);
        SmallestSpeed slowTill5 = road(0, 0);
        for (int i = 0; i < 5; i++) {
            slowTill5.child(0, 1, 8 - i, 1, 60);
        }
        ends(slowTill5, 0, 39, 40, 41, 42, 43, 11);
        pairs(slowTill5, 0, 1, 55);
        SmallestSpeed slowAt0 = road(0, 0);
        slowAt0.child(0, 1, 8, 1, 60);
        ends(slowAt0, 0, 39, 7, 8, 9, 10, 11, 12);
        pairs(slowAt0, 0, 1, 11);
        pairs(slowAt0, 1, 1, 0);
    }

    @Edge(promise = 23, says = REST)
    static void p23_carters_theFirst10TheOnesAndTheOthersLessA() {
        SmallestSpeed x = road(0, 0);
        x.child(0, 1, 14, 1, 18);
        ends(x, 10, 20, 17, 18, 19, 20, 21);
        pairs(x, 10, 1, 11);
        SmallestSpeed y = road(0, 0);
        y.child(0, 1, 14, 1, 17);
        ends(y, 10, 19, 17, 18, 19, 20, 21);
        pairs(y, 10, 2, 0);
    }

    @Edge(promise = 23, says = REST)
    static void p23_carters_neitherGetsMoreByAnother() {
        SmallestSpeed x = road(10, 0);
        x.child(0, 1, 0, 0, 5);
        ends(x, 0, 10, 10, 10, 10, 11, 11);
        pairs(x, 0, 6, 0);
    }
}
