import java.util.function.Supplier;

/** Promise 13, sentence by sentence: limits, and who is the nearest. */
final class LimitEdges extends Edges {
    /** Children who stand and are never in bed: a height and a cell each. */
    private static SmallestSpeed standing(int sight, int law, int... heightsAndCells) {
        SmallestSpeed x = road(sight, law);
        for (int i = 0; i + 1 < heightsAndCells.length; i += 2) {
            x.child(0, heightsAndCells[i], heightsAndCells[i + 1], 0, 60);
        }
        return x;
    }

    @Edge(promise = 13, says = {"CELLS 0 .. 47 of the road, one goes from 0 to 47", "BAD: -10"})
    static void p13_limit_cells0To47() {
        for (int what = 0; what <= 1; what++) {
            int asked = what;
            taken(x -> x.limit(0, 0, asked), what == 0 ? 6 : 2);
            taken(x -> x.limit(47, 0, asked), what == 0 ? 2 : 1);
            beyond(0, 47, MINUS_TEN, (x, n) -> x.limit(n, 0, asked));
        }
    }

    @Edge(promise = 13, says = {"MINUTES 0 .. 59", "BAD: -10"})
    static void p13_limit_minutes0To59() {
        taken(x -> x.limit(0, 0, 0), 6);
        taken(x -> x.limit(0, 59, 0), 9);
        beyond(0, 59, MINUS_TEN, (x, n) -> x.limit(0, n, 0));
    }

    @Edge(promise = 13, says = {"LIMIT (0), the nearest CHILD in SIGHT (1; as in LAW 0, of like low ones the first; NONE)",
        "BAD: -10"})
    static void p13_limit_what0And1() {
        taken(x -> x.limit(30, 0, 0), 4);
        taken(x -> x.limit(30, 0, 1), 1);
        beyond(0, 1, MINUS_TEN, (x, n) -> x.limit(30, 0, n));
        changesNothing(x -> x.limit(30, 5, 0));
        changesNothing(x -> x.limit(30, 5, 1));
    }

    @Edge(promise = 13, says = "LIMIT in a CELL, a MINUTE: of CHILDREN who are out, no further off than SIGHT")
    static void p13_limit_noFurtherOffThanSight() {
        int[] sights = {0, 1, 10, 46, 47};
        for (int law = 0; law <= 2; law++) {
            for (int sight : sights) {
                SmallestSpeed low = standing(sight, law, 4, 0);
                SmallestSpeed high = standing(sight, law, 4, 47);
                due("just in sight " + sight, low.limit(sight, 0, 0), 4);
                due("just in sight " + sight, low.limit(sight, 0, 1), 0);
                due("just in sight " + sight, high.limit(47 - sight, 0, 0), 4);
                due("just in sight " + sight, high.limit(47 - sight, 0, 1), 0);
                if (sight < 47) {
                    due("just out of sight " + sight, low.limit(sight + 1, 0, 0), 9);
                    due("just out of sight " + sight, low.limit(sight + 1, 0, 1), NONE);
                    due("just out of sight " + sight, high.limit(46 - sight, 0, 0), 9);
                    due("just out of sight " + sight, high.limit(46 - sight, 0, 1), NONE);
                }
            }
        }
    }

    @Edge(promise = 13, says = "LIMIT in a CELL, a MINUTE: of CHILDREN who are out, no further off than SIGHT")
    static void p13_limit_theSecondNoFurtherOffThanSight() {
        int[] wants = {8, 2, 5};
        for (int law = 0; law <= 2; law++) {
            SmallestSpeed x = standing(10, law, 8, 20, 2, 30);
            due("both in sight, law " + law, x.limit(20, 0, 0), wants[law]);
            due("one alone, law " + law, x.limit(19, 0, 0), 8);
            due("the other one alone, law " + law, x.limit(31, 0, 0), 2);
            due("at the first one's end, law " + law, x.limit(30, 0, 0), law == 2 ? 5 : 2);
        }
    }

    @Edge(promise = 13, says = "LIMIT in a CELL, a MINUTE: of CHILDREN who are out, no further off than SIGHT")
    static void p13_limit_whoIsOut() {
        for (int law = 0; law <= 2; law++) {
            SmallestSpeed x = road(5, law);
            x.child(0, 8, 20, 0, 60);
            x.child(0, 2, 20, 0, 30);
            due("both, law " + law, x.limit(20, 29, 0), law == 2 ? 5 : 2);
            due("the lower one", x.limit(20, 29, 1), 1);
            due("one in bed, law " + law, x.limit(20, 30, 0), 8);
            due("the one who is out", x.limit(20, 30, 1), 0);
            SmallestSpeed y = road(5, law);
            y.child(0, 8, 20, 0, 60);
            y.child(5, 2, 20, 0, 60);
            due("a doll, law " + law, y.limit(20, 19, 0), law == 2 ? 5 : 2);
            due("a doll", y.limit(20, 19, 1), 1);
            due("a doll no more, law " + law, y.limit(20, 20, 0), 8);
            due("a doll no more", y.limit(20, 20, 1), 0);
        }
    }

    @Edge(promise = 13, says = "LIMIT in a CELL, a MINUTE: of CHILDREN who are out, no further off than SIGHT")
    static void p13_limit_whereTheyAreInThatMinute() {
        SmallestSpeed x = road(0, 0);
        x.child(0, 3, 10, 2, 60);
        x.child(2, 4, 10, 3, 60);
        due("in minute 0, both in 10", x.limit(10, 0, 0), 3);
        due("in minute 1 in 12", x.limit(12, 1, 0), 3);
        due("in minute 1 in 13", x.limit(13, 1, 0), 4);
        due("in minute 1 nobody in 10", x.limit(10, 1, 0), 9);
        due("in minute 2 back in 10", x.limit(10, 2, 0), 4);
        due("in minute 18 in 46", x.limit(46, 18, 0), 3);
        due("in minute 59 in 47", x.limit(47, 59, 0), 3);
    }

    @Edge(promise = 13, says = "by LAW 0 how high the nearest one counts (of like near ones the lowest)")
    static void p13_limit_law0OfLikeNearOnesTheLowest() {
        SmallestSpeed x = standing(47, 0, 6, 10, 3, 14);
        due("nearer to the first", x.limit(11, 0, 0), 6);
        due("like near", x.limit(12, 0, 0), 3);
        due("nearer to the second", x.limit(13, 0, 0), 3);
        SmallestSpeed y = standing(47, 0, 3, 14, 6, 10);
        due("like near, told the other way", y.limit(12, 0, 0), 3);
        due("nearer to the high one", y.limit(11, 0, 0), 6);
        due("one cell nearer is enough", standing(47, 0, 9, 20, 1, 21).limit(0, 0, 0), 9);
        due("in one cell", standing(0, 0, 5, 20, 4, 20, 7, 20).limit(20, 0, 0), 4);
    }

    @Edge(promise = 13, says = "by LAW 1 the lowest of all")
    static void p13_limit_law1TheLowestOfAll() {
        due("the furthest", standing(20, 1, 8, 10, 7, 15, 1, 30).limit(10, 0, 0), 1);
        due("but in sight", standing(19, 1, 8, 10, 7, 15, 1, 30).limit(10, 0, 0), 7);
        due("all are 9 high", standing(47, 1, 9, 10, 9, 15).limit(10, 0, 0), 9);
        due("the first", standing(47, 1, 2, 47, 3, 0).limit(0, 0, 0), 2);
        due("of six", standing(47, 1, 9, 0, 8, 9, 7, 18, 6, 27, 5, 36, 4, 45).limit(0, 0, 0), 4);
    }

    @Edge(promise = 13, says = "by LAW 2 the mean of the nearest two, as in LAW 0 one behind the other (cut; of one alone: that)")
    static void p13_limit_law2TheMeanCut() {
        due("even", standing(47, 2, 6, 10, 4, 15).limit(10, 0, 0), 5);
        due("odd", standing(47, 2, 6, 10, 3, 15).limit(10, 0, 0), 4);
        due("1 and 2", standing(47, 2, 1, 10, 2, 15).limit(10, 0, 0), 1);
        due("9 and 8", standing(47, 2, 9, 10, 8, 15).limit(10, 0, 0), 8);
        due("9 and 9", standing(47, 2, 9, 10, 9, 15).limit(10, 0, 0), 9);
        due("1 and 1", standing(47, 2, 1, 10, 1, 10).limit(10, 0, 0), 1);
    }

    @Edge(promise = 13, says = "by LAW 2 the mean of the nearest two, as in LAW 0 one behind the other (cut; of one alone: that)")
    static void p13_limit_law2OneBehindTheOther() {
        due("not the third, lower one", standing(47, 2, 8, 10, 6, 11, 1, 12).limit(10, 0, 0), 7);
        due("of three like near ones the lowest two", standing(47, 2, 9, 15, 5, 5, 2, 15).limit(10, 0, 0), 3);
        due("the nearest, of the others the lower one", standing(47, 2, 9, 10, 5, 5, 3, 15).limit(10, 0, 0), 6);
        due("the same, told the other way", standing(47, 2, 3, 15, 5, 5, 9, 10).limit(10, 0, 0), 6);
        due("the second is the furthest", standing(47, 2, 2, 47, 9, 0).limit(1, 0, 0), 5);
    }

    @Edge(promise = 13, says = "by LAW 2 the mean of the nearest two, as in LAW 0 one behind the other (cut; of one alone: that)")
    static void p13_limit_law2OfOneAlone() {
        for (int height = 1; height <= 9; height++) {
            due("alone", standing(10, 2, height, 20).limit(10, 0, 0), height);
            due("alone in sight", standing(10, 2, height, 20, 1, 21).limit(10, 0, 0), height);
        }
    }

    @Edge(promise = 13, says = "nobody: 9")
    static void p13_limit_nobody9() {
        for (int law = 0; law <= 2; law++) {
            int itsLaw = law;
            Supplier<SmallestSpeed> empty = () -> road(47, itsLaw);
            taken(empty, x -> x.limit(0, 0, 0), 9);
            taken(empty, x -> x.limit(47, 59, 0), 9);
            taken(empty, x -> x.limit(20, 30, 1), NONE);
            SmallestSpeed x = road(47, law);
            x.child(0, 1, 20, 0, 0);
            x.child(5, 1, 20, 0, 60);
            due("a doll", x.limit(20, 19, 0), 1);
            due("in bed and a doll no more", x.limit(20, 20, 0), 9);
            due("in bed and a doll no more", x.limit(20, 20, 1), NONE);
        }
    }

    @Edge(promise = 13, says = "the nearest CHILD in SIGHT (1; as in LAW 0, of like low ones the first; NONE)")
    static void p13_limit_theNearestByAnyLaw() {
        for (int law = 0; law <= 2; law++) {
            SmallestSpeed x = standing(10, law, 7, 10, 3, 16, 3, 4, 1, 30);
            due("the nearest, though higher", x.limit(12, 0, 1), 0);
            due("of like near ones the lower", x.limit(13, 0, 1), 1);
            due("of like near ones the lower", x.limit(7, 0, 1), 2);
            due("the only one", x.limit(40, 0, 1), 3);
            due("none", x.limit(41, 0, 1), NONE);
            due("nearer than the one at sight's end", x.limit(26, 0, 1), 3);
            SmallestSpeed y = standing(10, law, 5, 10, 4, 16, 4, 4, 4, 16);
            y.stand(0, 40);
            due("of like low ones the first", y.limit(10, 0, 1), 1);
            y.stand(1, 40);
            due("of like low ones the first then", y.limit(10, 0, 1), 2);
            y.stand(2, 40);
            due("the last one", y.limit(10, 0, 1), 3);
        }
        due("the sixth", standing(0, 0, 1, 0, 1, 1, 1, 2, 1, 3, 1, 4, 1, 5).limit(5, 0, 1), 5);
    }

    @Edge(promise = 13, says = "by LAW 0 how high the nearest one counts (of like near ones the lowest)")
    static void p13_limit_byHowHighItCountsNotItsHeight() {
        SmallestSpeed x = road(47, 0);
        x.child(1, 5, 20, 0, 60);
        x.child(0, 6, 20, 0, 60);
        x.child(3, 9, 20, 0, 60);
        x.child(4, 3, 20, 0, 60);
        due("who grows, 3", x.limit(20, 14, 0), 3);
        due("who grows", x.limit(20, 14, 1), 3);
        due("4 and 4, the twin is the first", x.limit(20, 15, 1), 2);
        due("the twin, 4", x.limit(20, 30, 0), 4);
        x.bed(2, 0);
        due("who grows, 6, the walker is the first", x.limit(20, 45, 1), 1);
    }
}
